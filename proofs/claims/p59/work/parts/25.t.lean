set_option maxRecDepth 100000 in
set_option maxHeartbeats 4000000 in
theorem c_L_isWhole {l : Launch} {G : mgT} {μ : mmT} {r0 : Option Nat} {x2 : Int32} {x3 : Int32} {Q : Int32 → mmT → Prop} (hl0 : l.stackTraces = false) (h : w_L_isWhole G μ r0 x2 x3 Q) : MC G l yL_isWhole cL_isWhole 15 (some .boolean) { frames := 10, cells := 2326, slots := 13956, locals := 272 } [va_rf r0, .ref (gX G 5), .int x2, .int x3] μ (pI Q) := by
  refine mz_MC (by decide +kernel) (by simp [lg_sl, mz_cat, mz_cr, mz_ci, mz_cl, mz_cf, mz_cd, mz_cn]) (fun p e s m args below meth c S hG hr hlk hnm => ?_)
  have hB793 : ∀ (s0 : Int32) (μ : mmT) (H : Heap) (locs : List Loc) (ls : Array Slot), Mm G μ H → va_S (Ah G) s.heap H locs → lv_has ls 15 [(1, .ref (gX G 5))] → w_L_isWhole_b793 G Q  s0 μ → W p l e { frames := 10, cells := 2326, slots := 13956, locals := 272 } s m args below meth c H locs (2230) (13380) (MQ below (mQ G (pI Q)) args s 2326 13956 (Ah G)) (F0 m 793 ls [.int s0]) := by
    intro  s0 μ H locs ls hM hS hl h
    unfold w_L_isWhole_b793 at h
    obtain ⟨f42, h⟩ := h
    exact mz_iret S hr hlk hM hS (mz_nZ f42) (Nat.le_of_ble_eq_true rfl) (Nat.le_of_ble_eq_true rfl) dL_isWhole_793 ⟨_, rfl, h⟩
  have hB792 : ∀ (μ : mmT) (H : Heap) (locs : List Loc) (ls : Array Slot), Mm G μ H → va_S (Ah G) s.heap H locs → lv_has ls 15 [(1, .ref (gX G 5))] → w_L_isWhole_b792 G Q  μ → W p l e { frames := 10, cells := 2326, slots := 13956, locals := 272 } s m args below meth c H locs (2230) (13380) (MQ below (mQ G (pI Q)) args s 2326 13956 (Ah G)) (F0 m 792 ls []) := by
    intro  μ H locs ls hM hS hl h
    unfold w_L_isWhole_b792 at h
    refine lv_iconst (v := (nI 0)) S.1 S.2.1 dL_isWhole_792 (by decide) ?_
    refine W.widen (k := 2230) (n := 13380) (by omega) (by omega) ?_
    exact hB793  (nI 0) μ H locs ls hM hS (lv_sub hl [0] rfl) h
  have hB788 : ∀ (μ : mmT) (H : Heap) (locs : List Loc) (ls : Array Slot), Mm G μ H → va_S (Ah G) s.heap H locs → lv_has ls 15 [(1, .ref (gX G 5))] → w_L_isWhole_b788 G Q  μ → W p l e { frames := 10, cells := 2326, slots := 13956, locals := 272 } s m args below meth c H locs (2230) (13380) (MQ below (mQ G (pI Q)) args s 2326 13956 (Ah G)) (F0 m 788 ls []) := by
    intro  μ H locs ls hM hS hl h
    unfold w_L_isWhole_b788 at h
    refine lv_iconst (v := (nI 1)) S.1 S.2.1 dL_isWhole_788 (by decide) ?_
    refine lv_goto (tgt := 793) S.1 S.2.1 dL_isWhole_789 (by decide) ?_
    refine W.widen (k := 2230) (n := 13380) (by omega) (by omega) ?_
    exact hB793  (nI 1) μ H locs ls hM hS (lv_sub hl [0] rfl) h
  have hB742 : ∀ (r0 : Option Nat) (x3 : Int32) (x11 : Int32) (x12 : Int32) (x13 : Int32) (s0 : Int32) (μ : mmT) (H : Heap) (locs : List Loc) (ls : Array Slot), Mm G μ H → va_S (Ah G) s.heap H locs → lv_has ls 15 [(1, .ref (gX G 5)), (0, va_rf r0), (3, .int x3), (11, .int x11), (12, .int x12), (13, .int x13)] → w_L_isWhole_b742 G Q  r0 x3 x11 x12 x13 s0 μ → W p l e { frames := 10, cells := 2326, slots := 13956, locals := 272 } s m args below meth c H locs (2229) (13374) (MQ below (mQ G (pI Q)) args s 2326 13956 (Ah G)) (F0 m 742 ls [.int s0]) := by
    intro  r0 x3 x11 x12 x13 s0 μ H locs ls hM hS hl h
    unfold w_L_isWhole_b742 at h
    refine lv_istore (lv' := [(14, .int s0), (1, .ref (gX G 5)), (0, va_rf r0), (3, .int x3), (11, .int x11), (12, .int x12), (13, .int x13)]) S.1 S.2.1 dL_isWhole_742 hl (by decide) rfl (fun ls hl => ?_)
    refine lv_iload S.1 S.2.1 dL_isWhole_744 (lv_at hl 4 rfl) ?_
    refine lv_if_eq (tgt := 792) S.1 S.2.1 dL_isWhole_746 (by decide) (fun c41 => ?_) (fun c41 => ?_)
    · have h := h.1 c41
      refine W.widen (k := 2230) (n := 13380) (by omega) (by omega) ?_
      exact hB792  μ H locs ls hM hS (lv_sub hl [1] rfl) h
    · have h := h.2 c41
      refine lv_iload S.1 S.2.1 dL_isWhole_749 (lv_at hl 5 rfl) ?_
      refine lv_if_eq (tgt := 792) S.1 S.2.1 dL_isWhole_751 (by decide) (fun c43 => ?_) (fun c43 => ?_)
      · have h := h.1 c43
        refine W.widen (k := 2230) (n := 13380) (by omega) (by omega) ?_
        exact hB792  μ H locs ls hM hS (lv_sub hl [1] rfl) h
      · have h := h.2 c43
        refine lv_iload S.1 S.2.1 dL_isWhole_754 (lv_at hl 6 rfl) ?_
        refine lv_if_eq (tgt := 792) S.1 S.2.1 dL_isWhole_756 (by decide) (fun c44 => ?_) (fun c44 => ?_)
        · have h := h.1 c44
          refine W.widen (k := 2230) (n := 13380) (by omega) (by omega) ?_
          exact hB792  μ H locs ls hM hS (lv_sub hl [1] rfl) h
        · have h := h.2 c44
          refine lv_iload S.1 S.2.1 dL_isWhole_759 (lv_at hl 0 rfl) ?_
          refine lv_if_eq (tgt := 792) S.1 S.2.1 dL_isWhole_761 (by decide) (fun c45 => ?_) (fun c45 => ?_)
          · have h := h.1 c45
            refine W.widen (k := 2230) (n := 13380) (by omega) (by omega) ?_
            exact hB792  μ H locs ls hM hS (lv_sub hl [1] rfl) h
          · have h := h.2 c45
            refine mz_aload_n (x := r0) S.1 S.2.1 dL_isWhole_764 rfl (lv_at hl 2 rfl) ?_
            refine mz_aload_n (x := r0) S.1 S.2.1 dL_isWhole_765 rfl (lv_at hl 2 rfl) ?_
            obtain ⟨a46, e47, h⟩ := h
            refine mz_o0 e47 ?_
            obtain ⟨k48, h⟩ := h
            refine mz_V S hG hM hS cf_9 k48 (As := []) (rest := [va_rf r0]) (c_X10_nestCount h) yf_X10_nestCount tw_627 tw_628 tw_629 ⟨Nat.le_of_ble_eq_true rfl, Nat.le_of_ble_eq_true rfl⟩ ⟨(Nat.le_of_ble_eq_true rfl), (Nat.le_of_ble_eq_true rfl)⟩ rfl hl.1 rfl (by simp [mz_cat, mz_cr, mz_ci, mz_cl, mz_cf, mz_cd, mz_cn]) dL_isWhole_766 (fun v9 μ9 H locs hp hM hS => ?_)
            obtain ⟨u49, rfl, e9, h⟩ := hp
            rw [e9] at hM
            refine W.cs (cells' := 2229) (slots' := 13374) rfl rfl ?_
            refine mz_SH S hG hM hS (As := [va_rf r0, .int u49]) (rest := []) (c_L_nestByDeliveries hl0 h) yh_L_nestByDeliveries tw_1262 tw_1263 ⟨Nat.le_of_ble_eq_true rfl, Nat.le_of_ble_eq_true rfl⟩ ⟨(Nat.le_of_ble_eq_true rfl), (Nat.le_of_ble_eq_true rfl)⟩ rfl hl.1 rfl (Nat.le_of_ble_eq_true rfl) dL_isWhole_769 (fun v9 μ9 H locs hp hM hS => ?_)
            obtain ⟨u50, rfl, e9, h⟩ := hp
            rw [e9] at hM
            refine W.cs (cells' := 2230) (slots' := 13380) rfl rfl ?_
            refine lv_bipush (v := (-75)) S.1 S.2.1 dL_isWhole_772 (by decide) ?_
            refine lv_icmp_ne (tgt := 792) S.1 S.2.1 dL_isWhole_774 (by decide) (fun c51 => ?_) (fun c51 => ?_)
            · have h := h.1 c51
              refine W.widen (k := 2230) (n := 13380) (by omega) (by omega) ?_
              exact hB792  μ H locs ls hM hS (lv_sub hl [1] rfl) h
            · have h := h.2 c51
              refine lv_iload_n S.1 S.2.1 dL_isWhole_777 rfl (lv_at hl 3 rfl) ?_
              refine lv_if_eq (tgt := 788) S.1 S.2.1 dL_isWhole_778 (by decide) (fun c52 => ?_) (fun c52 => ?_)
              · have h := h.1 c52
                refine W.widen (k := 2230) (n := 13380) (by omega) (by omega) ?_
                exact hB788  μ H locs ls hM hS (lv_sub hl [1] rfl) h
              · have h := h.2 c52
                refine mz_aload_n (x := r0) S.1 S.2.1 dL_isWhole_781 rfl (lv_at hl 2 rfl) ?_
                refine mz_o0 e47 ?_
                refine mz_V S hG hM hS cf_9 k48 (As := []) (rest := []) (c_X10_isConsistent h) yf_X10_isConsistent tw_1381 tw_1382 tw_1383 ⟨Nat.le_of_ble_eq_true rfl, Nat.le_of_ble_eq_true rfl⟩ ⟨(Nat.le_of_ble_eq_true rfl), (Nat.le_of_ble_eq_true rfl)⟩ rfl hl.1 rfl (Nat.le_of_ble_eq_true rfl) dL_isWhole_782 (fun v9 μ9 H locs hp hM hS => ?_)
                obtain ⟨u53, rfl, e9, h⟩ := hp
                rw [e9] at hM
                refine W.cs (cells' := 2230) (slots' := 13380) rfl rfl ?_
                refine lv_if_eq (tgt := 792) S.1 S.2.1 dL_isWhole_785 (by decide) (fun c54 => ?_) (fun c54 => ?_)
                · have h := h.1 c54
                  refine W.widen (k := 2230) (n := 13380) (by omega) (by omega) ?_
                  exact hB792  μ H locs ls hM hS (lv_sub hl [1] rfl) h
                · have h := h.2 c54
                  refine W.widen (k := 2230) (n := 13380) (by omega) (by omega) ?_
                  exact hB788  μ H locs ls hM hS (lv_sub hl [1] rfl) h
  have hB741 : ∀ (r0 : Option Nat) (x3 : Int32) (x11 : Int32) (x12 : Int32) (x13 : Int32) (μ : mmT) (H : Heap) (locs : List Loc) (ls : Array Slot), Mm G μ H → va_S (Ah G) s.heap H locs → lv_has ls 15 [(1, .ref (gX G 5)), (0, va_rf r0), (3, .int x3), (11, .int x11), (12, .int x12), (13, .int x13)] → w_L_isWhole_b741 G Q  r0 x3 x11 x12 x13 μ → W p l e { frames := 10, cells := 2326, slots := 13956, locals := 272 } s m args below meth c H locs (2229) (13374) (MQ below (mQ G (pI Q)) args s 2326 13956 (Ah G)) (F0 m 741 ls []) := by
    intro  r0 x3 x11 x12 x13 μ H locs ls hM hS hl h
    unfold w_L_isWhole_b741 at h
    refine lv_iconst (v := (nI 0)) S.1 S.2.1 dL_isWhole_741 (by decide) ?_
    refine W.widen (k := 2229) (n := 13374) (by omega) (by omega) ?_
    exact hB742  r0 x3 x11 x12 x13 (nI 0) μ H locs ls hM hS (lv_sub hl [0, 1, 2, 3, 4, 5] rfl) h
  have hB670 : ∀ (r0 : Option Nat) (x3 : Int32) (x4 : Int32) (x6 : Int32) (x7 : Int32) (x8 : Int32) (x9 : Int32) (x11 : Int32) (x12 : Int32) (s0 : Int32) (μ : mmT) (H : Heap) (locs : List Loc) (ls : Array Slot), Mm G μ H → va_S (Ah G) s.heap H locs → lv_has ls 15 [(1, .ref (gX G 5)), (0, va_rf r0), (3, .int x3), (4, .int x4), (6, .int x6), (7, .int x7), (8, .int x8), (9, .int x9), (11, .int x11), (12, .int x12)] → w_L_isWhole_b670 G Q  r0 x3 x4 x6 x7 x8 x9 x11 x12 s0 μ → W p l e { frames := 10, cells := 2326, slots := 13956, locals := 272 } s m args below meth c H locs (2229) (13374) (MQ below (mQ G (pI Q)) args s 2326 13956 (Ah G)) (F0 m 670 ls [.int s0]) := by
    intro  r0 x3 x4 x6 x7 x8 x9 x11 x12 s0 μ H locs ls hM hS hl h
    unfold w_L_isWhole_b670 at h
    refine lv_istore (lv' := [(13, .int s0), (1, .ref (gX G 5)), (0, va_rf r0), (3, .int x3), (4, .int x4), (6, .int x6), (7, .int x7), (8, .int x8), (9, .int x9), (11, .int x11), (12, .int x12)]) S.1 S.2.1 dL_isWhole_670 hl (by decide) rfl (fun ls hl => ?_)
    refine mz_aload_n (x := r0) S.1 S.2.1 dL_isWhole_672 rfl (lv_at hl 2 rfl) ?_
    obtain ⟨a36, e37, h⟩ := h
    refine mz_o0 e37 ?_
    obtain ⟨k38, h⟩ := h
    refine mz_V S hG hM hS cf_9 k38 (As := []) (rest := []) (c_X10_messageCountByTotals h) yf_X10_messageCountByTotals tw_1373 tw_1374 tw_1375 ⟨Nat.le_of_ble_eq_true rfl, Nat.le_of_ble_eq_true rfl⟩ ⟨(Nat.le_of_ble_eq_true rfl), (Nat.le_of_ble_eq_true rfl)⟩ rfl hl.1 rfl (Nat.le_of_ble_eq_true rfl) dL_isWhole_673 (fun v9 μ9 H locs hp hM hS => ?_)
    obtain ⟨u39, rfl, e9, h⟩ := hp
    rw [e9] at hM
    refine W.cs (cells' := 2229) (slots' := 13374) rfl rfl ?_
    refine lv_iload S.1 S.2.1 dL_isWhole_676 (lv_at hl 4 rfl) ?_
    refine lv_icmp_ne (tgt := 741) S.1 S.2.1 dL_isWhole_678 (by decide) (fun c40 => ?_) (fun c40 => ?_)
    · have h := h.1 c40
      refine W.widen (k := 2229) (n := 13374) (by omega) (by omega) ?_
      exact hB741  r0 x3 x11 x12 s0 μ H locs ls hM hS (lv_sub hl [1, 2, 3, 9, 10, 0] rfl) h
    · have h := h.2 c40
      refine lv_iload S.1 S.2.1 dL_isWhole_681 (lv_at hl 7 rfl) ?_
      refine lv_iload S.1 S.2.1 dL_isWhole_683 (lv_at hl 5 rfl) ?_
      refine lv_icmp_ne (tgt := 741) S.1 S.2.1 dL_isWhole_685 (by decide) (fun c55 => ?_) (fun c55 => ?_)
      · have h := h.1 c55
        refine W.widen (k := 2229) (n := 13374) (by omega) (by omega) ?_
        exact hB741  r0 x3 x11 x12 s0 μ H locs ls hM hS (lv_sub hl [1, 2, 3, 9, 10, 0] rfl) h
      · have h := h.2 c55
        refine lv_iload S.1 S.2.1 dL_isWhole_688 (lv_at hl 8 rfl) ?_
        refine lv_iload S.1 S.2.1 dL_isWhole_690 (lv_at hl 6 rfl) ?_
        refine lv_icmp_ne (tgt := 741) S.1 S.2.1 dL_isWhole_692 (by decide) (fun c56 => ?_) (fun c56 => ?_)
        · have h := h.1 c56
          refine W.widen (k := 2229) (n := 13374) (by omega) (by omega) ?_
          exact hB741  r0 x3 x11 x12 s0 μ H locs ls hM hS (lv_sub hl [1, 2, 3, 9, 10, 0] rfl) h
        · have h := h.2 c56
          refine mz_aload_n (x := r0) S.1 S.2.1 dL_isWhole_695 rfl (lv_at hl 2 rfl) ?_
          refine mz_o0 e37 ?_
          refine mz_V S hG hM hS cf_9 k38 (As := []) (rest := []) (c_X10_deliveredTotal h) yf_X10_deliveredTotal tw_382 tw_383 tw_384 ⟨Nat.le_of_ble_eq_true rfl, Nat.le_of_ble_eq_true rfl⟩ ⟨(Nat.le_of_ble_eq_true rfl), (Nat.le_of_ble_eq_true rfl)⟩ rfl hl.1 rfl (Nat.le_of_ble_eq_true rfl) dL_isWhole_696 (fun v9 μ9 H locs hp hM hS => ?_)
          obtain ⟨u57, rfl, e9, h⟩ := hp
          rw [e9] at hM
          refine W.cs (cells' := 2229) (slots' := 13374) rfl rfl ?_
          refine mz_aload_n (x := r0) S.1 S.2.1 dL_isWhole_699 rfl (lv_at hl 2 rfl) ?_
          refine mz_o0 e37 ?_
          refine mz_V S hG hM hS cf_9 k38 (As := []) (rest := [.int u57]) (c_X10_readTotal h) yf_X10_readTotal tw_1118 tw_1119 tw_1120 ⟨Nat.le_of_ble_eq_true rfl, Nat.le_of_ble_eq_true rfl⟩ ⟨(Nat.le_of_ble_eq_true rfl), (Nat.le_of_ble_eq_true rfl)⟩ rfl hl.1 rfl (Nat.le_of_ble_eq_true rfl) dL_isWhole_700 (fun v9 μ9 H locs hp hM hS => ?_)
          obtain ⟨u58, rfl, e9, h⟩ := hp
          rw [e9] at hM
          refine W.cs (cells' := 2229) (slots' := 13374) rfl rfl ?_
          refine lv_iload S.1 S.2.1 dL_isWhole_703 (lv_at hl 6 rfl) ?_
          refine lv_iadd S.1 S.2.1 dL_isWhole_705 ?_
          refine lv_icmp_ne (tgt := 741) S.1 S.2.1 dL_isWhole_706 (by decide) (fun c59 => ?_) (fun c59 => ?_)
          · have h := h.1 c59
            refine W.widen (k := 2229) (n := 13374) (by omega) (by omega) ?_
            exact hB741  r0 x3 x11 x12 s0 μ H locs ls hM hS (lv_sub hl [1, 2, 3, 9, 10, 0] rfl) h
          · have h := h.2 c59
            refine mz_aload_n (x := r0) S.1 S.2.1 dL_isWhole_709 rfl (lv_at hl 2 rfl) ?_
            refine mz_o0 e37 ?_
            refine mz_V S hG hM hS cf_9 k38 (As := []) (rest := []) (c_X10_arrivalTotal h) yf_X10_arrivalTotal tw_394 tw_395 tw_396 ⟨Nat.le_of_ble_eq_true rfl, Nat.le_of_ble_eq_true rfl⟩ ⟨(Nat.le_of_ble_eq_true rfl), (Nat.le_of_ble_eq_true rfl)⟩ rfl hl.1 rfl (Nat.le_of_ble_eq_true rfl) dL_isWhole_710 (fun v9 μ9 H locs hp hM hS => ?_)
            obtain ⟨u60, rfl, e9, h⟩ := hp
            rw [e9] at hM
            refine W.cs (cells' := 2229) (slots' := 13374) rfl rfl ?_
            refine mz_aload_n (x := r0) S.1 S.2.1 dL_isWhole_713 rfl (lv_at hl 2 rfl) ?_
            refine mz_o0 e37 ?_
            refine mz_V S hG hM hS cf_9 k38 (As := []) (rest := [.int u60]) (c_X10_deliveredTotal h) yf_X10_deliveredTotal tw_382 tw_383 tw_384 ⟨Nat.le_of_ble_eq_true rfl, Nat.le_of_ble_eq_true rfl⟩ ⟨(Nat.le_of_ble_eq_true rfl), (Nat.le_of_ble_eq_true rfl)⟩ rfl hl.1 rfl (Nat.le_of_ble_eq_true rfl) dL_isWhole_714 (fun v9 μ9 H locs hp hM hS => ?_)
            obtain ⟨u61, rfl, e9, h⟩ := hp
            rw [e9] at hM
            refine W.cs (cells' := 2229) (slots' := 13374) rfl rfl ?_
            refine mz_aload_n (x := r0) S.1 S.2.1 dL_isWhole_717 rfl (lv_at hl 2 rfl) ?_
            refine mz_o0 e37 ?_
            refine mz_V S hG hM hS cf_9 k38 (As := []) (rest := [.int u61, .int u60]) (c_X10_duplicateTotal h) yf_X10_duplicateTotal tw_386 tw_387 tw_388 ⟨Nat.le_of_ble_eq_true rfl, Nat.le_of_ble_eq_true rfl⟩ ⟨(Nat.le_of_ble_eq_true rfl), (Nat.le_of_ble_eq_true rfl)⟩ rfl hl.1 rfl (Nat.le_of_ble_eq_true rfl) dL_isWhole_718 (fun v9 μ9 H locs hp hM hS => ?_)
            obtain ⟨u62, rfl, e9, h⟩ := hp
            rw [e9] at hM
            refine W.cs (cells' := 2229) (slots' := 13374) rfl rfl ?_
            refine lv_iadd S.1 S.2.1 dL_isWhole_721 ?_
            refine mz_aload_n (x := r0) S.1 S.2.1 dL_isWhole_722 rfl (lv_at hl 2 rfl) ?_
            refine mz_o0 e37 ?_
            refine mz_V S hG hM hS cf_9 k38 (As := []) (rest := [.int (u61 + u62), .int u60]) (c_X10_failedTotal h) yf_X10_failedTotal tw_390 tw_391 tw_392 ⟨Nat.le_of_ble_eq_true rfl, Nat.le_of_ble_eq_true rfl⟩ ⟨(Nat.le_of_ble_eq_true rfl), (Nat.le_of_ble_eq_true rfl)⟩ rfl hl.1 rfl (Nat.le_of_ble_eq_true rfl) dL_isWhole_723 (fun v9 μ9 H locs hp hM hS => ?_)
            obtain ⟨u63, rfl, e9, h⟩ := hp
            rw [e9] at hM
            refine W.cs (cells' := 2229) (slots' := 13374) rfl rfl ?_
            refine lv_iadd S.1 S.2.1 dL_isWhole_726 ?_
            refine lv_icmp_lt (tgt := 741) S.1 S.2.1 dL_isWhole_727 (by decide) (fun c64 => ?_) (fun c64 => ?_)
            · have h := h.1 c64
              refine W.widen (k := 2229) (n := 13374) (by omega) (by omega) ?_
              exact hB741  r0 x3 x11 x12 s0 μ H locs ls hM hS (lv_sub hl [1, 2, 3, 9, 10, 0] rfl) h
            · have h := h.2 c64
              refine lv_iload S.1 S.2.1 dL_isWhole_730 (lv_at hl 4 rfl) ?_
              refine lv_bipush (v := (nI 16)) S.1 S.2.1 dL_isWhole_732 (by decide) ?_
              refine lv_icmp_gt (tgt := 741) S.1 S.2.1 dL_isWhole_734 (by decide) (fun c65 => ?_) (fun c65 => ?_)
              · have h := h.1 c65
                refine W.widen (k := 2229) (n := 13374) (by omega) (by omega) ?_
                exact hB741  r0 x3 x11 x12 s0 μ H locs ls hM hS (lv_sub hl [1, 2, 3, 9, 10, 0] rfl) h
              · have h := h.2 c65
                refine lv_iconst (v := (nI 1)) S.1 S.2.1 dL_isWhole_737 (by decide) ?_
                refine lv_goto (tgt := 742) S.1 S.2.1 dL_isWhole_738 (by decide) ?_
                refine W.widen (k := 2229) (n := 13374) (by omega) (by omega) ?_
                exact hB742  r0 x3 x11 x12 s0 (nI 1) μ H locs ls hM hS (lv_sub hl [1, 2, 3, 9, 10, 0] rfl) h
  have hB669 : ∀ (r0 : Option Nat) (x3 : Int32) (x4 : Int32) (x6 : Int32) (x7 : Int32) (x8 : Int32) (x9 : Int32) (x11 : Int32) (x12 : Int32) (μ : mmT) (H : Heap) (locs : List Loc) (ls : Array Slot), Mm G μ H → va_S (Ah G) s.heap H locs → lv_has ls 15 [(1, .ref (gX G 5)), (0, va_rf r0), (3, .int x3), (4, .int x4), (6, .int x6), (7, .int x7), (8, .int x8), (9, .int x9), (11, .int x11), (12, .int x12)] → w_L_isWhole_b669 G Q  r0 x3 x4 x6 x7 x8 x9 x11 x12 μ → W p l e { frames := 10, cells := 2326, slots := 13956, locals := 272 } s m args below meth c H locs (2229) (13374) (MQ below (mQ G (pI Q)) args s 2326 13956 (Ah G)) (F0 m 669 ls []) := by
    intro  r0 x3 x4 x6 x7 x8 x9 x11 x12 μ H locs ls hM hS hl h
    unfold w_L_isWhole_b669 at h
    refine lv_iconst (v := (nI 0)) S.1 S.2.1 dL_isWhole_669 (by decide) ?_
    refine W.widen (k := 2229) (n := 13374) (by omega) (by omega) ?_
    exact hB670  r0 x3 x4 x6 x7 x8 x9 x11 x12 (nI 0) μ H locs ls hM hS (lv_sub hl [0, 1, 2, 3, 4, 5, 6, 7, 8, 9] rfl) h
  have hB628 : ∀ (r0 : Option Nat) (x3 : Int32) (x4 : Int32) (x6 : Int32) (x7 : Int32) (x8 : Int32) (x9 : Int32) (x11 : Int32) (x12 : Int32) (μ : mmT) (H : Heap) (locs : List Loc) (ls : Array Slot), Mm G μ H → va_S (Ah G) s.heap H locs → lv_has ls 15 [(1, .ref (gX G 5)), (0, va_rf r0), (3, .int x3), (4, .int x4), (6, .int x6), (7, .int x7), (8, .int x8), (9, .int x9), (11, .int x11), (12, .int x12)] → w_L_isWhole_b628 G Q  r0 x3 x4 x6 x7 x8 x9 x11 x12 μ → W p l e { frames := 10, cells := 2326, slots := 13956, locals := 272 } s m args below meth c H locs (2228) (13368) (MQ below (mQ G (pI Q)) args s 2326 13956 (Ah G)) (F0 m 628 ls []) := by
    intro  r0 x3 x4 x6 x7 x8 x9 x11 x12 μ H locs ls hM hS hl h
    unfold w_L_isWhole_b628 at h
    refine lv_iconst (v := (nI 0)) S.1 S.2.1 dL_isWhole_628 (by decide) ?_
    refine lv_goto (tgt := 670) S.1 S.2.1 dL_isWhole_629 (by decide) ?_
    refine W.widen (k := 2229) (n := 13374) (by omega) (by omega) ?_
    exact hB670  r0 x3 x4 x6 x7 x8 x9 x11 x12 (nI 0) μ H locs ls hM hS (lv_sub hl [0, 1, 2, 3, 4, 5, 6, 7, 8, 9] rfl) h
  have hB596 : ∀ (r0 : Option Nat) (x3 : Int32) (x4 : Int32) (x6 : Int32) (x7 : Int32) (x8 : Int32) (x9 : Int32) (x11 : Int32) (s0 : Int32) (μ : mmT) (H : Heap) (locs : List Loc) (ls : Array Slot), Mm G μ H → va_S (Ah G) s.heap H locs → lv_has ls 15 [(1, .ref (gX G 5)), (0, va_rf r0), (3, .int x3), (4, .int x4), (6, .int x6), (7, .int x7), (8, .int x8), (9, .int x9), (11, .int x11)] → w_L_isWhole_b596 G Q  r0 x3 x4 x6 x7 x8 x9 x11 s0 μ → W p l e { frames := 10, cells := 2326, slots := 13956, locals := 272 } s m args below meth c H locs (2226) (13356) (MQ below (mQ G (pI Q)) args s 2326 13956 (Ah G)) (F0 m 596 ls [.int s0]) := by
    intro  r0 x3 x4 x6 x7 x8 x9 x11 s0 μ H locs ls hM hS hl h
    unfold w_L_isWhole_b596 at h
    refine lv_istore (lv' := [(12, .int s0), (1, .ref (gX G 5)), (0, va_rf r0), (3, .int x3), (4, .int x4), (6, .int x6), (7, .int x7), (8, .int x8), (9, .int x9), (11, .int x11)]) S.1 S.2.1 dL_isWhole_596 hl (by decide) rfl (fun ls hl => ?_)
    refine mz_aload_n (x := r0) S.1 S.2.1 dL_isWhole_598 rfl (lv_at hl 2 rfl) ?_
    obtain ⟨a26, e27, h⟩ := h
    refine mz_o0 e27 ?_
    obtain ⟨k28, h⟩ := h
    refine mz_V S hG hM hS cf_9 k28 (As := []) (rest := []) (c_X10_arrivalTotal h) yf_X10_arrivalTotal tw_394 tw_395 tw_396 ⟨Nat.le_of_ble_eq_true rfl, Nat.le_of_ble_eq_true rfl⟩ ⟨(Nat.le_of_ble_eq_true rfl), (Nat.le_of_ble_eq_true rfl)⟩ rfl hl.1 rfl (Nat.le_of_ble_eq_true rfl) dL_isWhole_599 (fun v9 μ9 H locs hp hM hS => ?_)
    obtain ⟨u29, rfl, e9, h⟩ := hp
    rw [e9] at hM
    refine W.cs (cells' := 2226) (slots' := 13356) rfl rfl ?_
    refine lv_if_ne (tgt := 632) S.1 S.2.1 dL_isWhole_602 (by decide) (fun c30 => ?_) (fun c30 => ?_)
    · have h := h.1 c30
      refine mz_aload_n (x := r0) S.1 S.2.1 dL_isWhole_632 rfl (lv_at hl 2 rfl) ?_
      refine mz_SH S hG hM hS (As := [va_rf r0]) (rest := []) (c_L_deliveryRate hl0 h) yh_L_deliveryRate tw_1343 tw_1344 ⟨Nat.le_of_ble_eq_true rfl, Nat.le_of_ble_eq_true rfl⟩ ⟨(Nat.le_of_ble_eq_true rfl), (Nat.le_of_ble_eq_true rfl)⟩ rfl hl.1 rfl (Nat.le_of_ble_eq_true rfl) dL_isWhole_633 (fun v9 μ9 H locs hp hM hS => ?_)
      obtain ⟨u31, rfl, e9, h⟩ := hp
      rw [e9] at hM
      refine W.cs (cells' := 2227) (slots' := 13362) rfl rfl ?_
      refine mz_aload_n (x := r0) S.1 S.2.1 dL_isWhole_636 rfl (lv_at hl 2 rfl) ?_
      refine mz_o0 e27 ?_
      refine mz_V S hG hM hS cf_9 k28 (As := []) (rest := [.float u31]) (c_X10_deliveredTotal h) yf_X10_deliveredTotal tw_382 tw_383 tw_384 ⟨Nat.le_of_ble_eq_true rfl, Nat.le_of_ble_eq_true rfl⟩ ⟨(Nat.le_of_ble_eq_true rfl), (Nat.le_of_ble_eq_true rfl)⟩ rfl hl.1 rfl (Nat.le_of_ble_eq_true rfl) dL_isWhole_637 (fun v9 μ9 H locs hp hM hS => ?_)
      obtain ⟨u32, rfl, e9, h⟩ := hp
      rw [e9] at hM
      refine W.cs (cells' := 2227) (slots' := 13362) rfl rfl ?_
      refine lv_i2f S.1 S.2.1 dL_isWhole_640 ?_
      refine mz_aload_n (x := r0) S.1 S.2.1 dL_isWhole_641 rfl (lv_at hl 2 rfl) ?_
      refine mz_o0 e27 ?_
      refine mz_V S hG hM hS cf_9 k28 (As := []) (rest := [.float (FP.i2f u32), .float u31]) (c_X10_arrivalTotal h) yf_X10_arrivalTotal tw_394 tw_395 tw_396 ⟨Nat.le_of_ble_eq_true rfl, Nat.le_of_ble_eq_true rfl⟩ ⟨(Nat.le_of_ble_eq_true rfl), (Nat.le_of_ble_eq_true rfl)⟩ rfl hl.1 rfl (Nat.le_of_ble_eq_true rfl) dL_isWhole_642 (fun v9 μ9 H locs hp hM hS => ?_)
      obtain ⟨u33, rfl, e9, h⟩ := hp
      rw [e9] at hM
      refine W.cs (cells' := 2227) (slots' := 13362) rfl rfl ?_
      refine lv_i2f S.1 S.2.1 dL_isWhole_645 ?_
      obtain ⟨g34, h⟩ := h
      refine lv_fdiv S.1 S.2.1 dL_isWhole_646 g34 ?_
      refine lv_fcmp S.1 S.2.1 dL_isWhole_647 ?_
      refine lv_if_ne (tgt := 669) S.1 S.2.1 dL_isWhole_648 (by decide) (fun c35 => ?_) (fun c35 => ?_)
      · have h := h.1 c35
        refine W.widen (k := 2229) (n := 13374) (by omega) (by omega) ?_
        exact hB669  r0 x3 x4 x6 x7 x8 x9 x11 s0 μ H locs ls hM hS (lv_sub hl [1, 2, 3, 4, 5, 6, 7, 8, 9, 0] rfl) h
      · have h := h.2 c35
        refine mz_aload_n (x := r0) S.1 S.2.1 dL_isWhole_651 rfl (lv_at hl 2 rfl) ?_
        refine mz_SH S hG hM hS (As := [va_rf r0]) (rest := []) (c_L_deliveryRateBits hl0 h) yh_L_deliveryRateBits tw_1356 tw_1357 ⟨Nat.le_of_ble_eq_true rfl, Nat.le_of_ble_eq_true rfl⟩ ⟨(Nat.le_of_ble_eq_true rfl), (Nat.le_of_ble_eq_true rfl)⟩ rfl hl.1 rfl (Nat.le_of_ble_eq_true rfl) dL_isWhole_652 (fun v9 μ9 H locs hp hM hS => ?_)
        obtain ⟨u66, rfl, e9, h⟩ := hp
        rw [e9] at hM
        refine W.cs (cells' := 2228) (slots' := 13368) rfl rfl ?_
        refine mz_aload_n (x := r0) S.1 S.2.1 dL_isWhole_655 rfl (lv_at hl 2 rfl) ?_
        refine mz_SH S hG hM hS (As := [va_rf r0]) (rest := [.int u66]) (c_L_deliveryRate hl0 h) yh_L_deliveryRate tw_1343 tw_1344 ⟨Nat.le_of_ble_eq_true rfl, Nat.le_of_ble_eq_true rfl⟩ ⟨(Nat.le_of_ble_eq_true rfl), (Nat.le_of_ble_eq_true rfl)⟩ rfl hl.1 rfl (Nat.le_of_ble_eq_true rfl) dL_isWhole_656 (fun v9 μ9 H locs hp hM hS => ?_)
        obtain ⟨u67, rfl, e9, h⟩ := hp
        rw [e9] at hM
        refine W.cs (cells' := 2229) (slots' := 13374) rfl rfl ?_
        refine mz_S S hG hM hS (As := [.float u67]) (rest := [.int u66]) (c_Jxf58ca_floatToIntBits_5c35a h) yf_Jxf58ca_floatToIntBits_5c35a tw_1363 tw_1364 ⟨Nat.le_of_ble_eq_true rfl, Nat.le_of_ble_eq_true rfl⟩ ⟨(Nat.le_of_ble_eq_true rfl), (Nat.le_of_ble_eq_true rfl)⟩ rfl hl.1 rfl (Nat.le_of_ble_eq_true rfl) dL_isWhole_659 (fun v9 μ9 H locs hp hM hS => ?_)
        obtain ⟨u68, rfl, e9, h⟩ := hp
        rw [e9] at hM
        refine W.cs (cells' := 2229) (slots' := 13374) rfl rfl ?_
        refine lv_icmp_ne (tgt := 669) S.1 S.2.1 dL_isWhole_662 (by decide) (fun c69 => ?_) (fun c69 => ?_)
        · have h := h.1 c69
          refine W.widen (k := 2229) (n := 13374) (by omega) (by omega) ?_
          exact hB669  r0 x3 x4 x6 x7 x8 x9 x11 s0 μ H locs ls hM hS (lv_sub hl [1, 2, 3, 4, 5, 6, 7, 8, 9, 0] rfl) h
        · have h := h.2 c69
          refine lv_iconst (v := (nI 1)) S.1 S.2.1 dL_isWhole_665 (by decide) ?_
          refine lv_goto (tgt := 670) S.1 S.2.1 dL_isWhole_666 (by decide) ?_
          refine W.widen (k := 2229) (n := 13374) (by omega) (by omega) ?_
          exact hB670  r0 x3 x4 x6 x7 x8 x9 x11 s0 (nI 1) μ H locs ls hM hS (lv_sub hl [1, 2, 3, 4, 5, 6, 7, 8, 9, 0] rfl) h
    · have h := h.2 c30
      refine mz_aload_n (x := r0) S.1 S.2.1 dL_isWhole_605 rfl (lv_at hl 2 rfl) ?_
      refine mz_SH S hG hM hS (As := [va_rf r0]) (rest := []) (c_L_deliveryRate hl0 h) yh_L_deliveryRate tw_1343 tw_1344 ⟨Nat.le_of_ble_eq_true rfl, Nat.le_of_ble_eq_true rfl⟩ ⟨(Nat.le_of_ble_eq_true rfl), (Nat.le_of_ble_eq_true rfl)⟩ rfl hl.1 rfl (Nat.le_of_ble_eq_true rfl) dL_isWhole_606 (fun v9 μ9 H locs hp hM hS => ?_)
      obtain ⟨u70, rfl, e9, h⟩ := hp
      rw [e9] at hM
      refine W.cs (cells' := 2227) (slots' := 13362) rfl rfl ?_
      refine lv_ldcf (v := 3264479232) S.1 S.2.1 S.2.2.2.1 (S.2.2.2.2 _ tw_1355) dL_isWhole_609 ?_
      refine lv_fcmp S.1 S.2.1 dL_isWhole_611 ?_
      refine lv_if_ne (tgt := 628) S.1 S.2.1 dL_isWhole_612 (by decide) (fun c71 => ?_) (fun c71 => ?_)
      · have h := h.1 c71
        refine W.widen (k := 2228) (n := 13368) (by omega) (by omega) ?_
        exact hB628  r0 x3 x4 x6 x7 x8 x9 x11 s0 μ H locs ls hM hS (lv_sub hl [1, 2, 3, 4, 5, 6, 7, 8, 9, 0] rfl) h
      · have h := h.2 c71
        refine mz_aload_n (x := r0) S.1 S.2.1 dL_isWhole_615 rfl (lv_at hl 2 rfl) ?_
        refine mz_SH S hG hM hS (As := [va_rf r0]) (rest := []) (c_L_deliveryRateBits hl0 h) yh_L_deliveryRateBits tw_1356 tw_1357 ⟨Nat.le_of_ble_eq_true rfl, Nat.le_of_ble_eq_true rfl⟩ ⟨(Nat.le_of_ble_eq_true rfl), (Nat.le_of_ble_eq_true rfl)⟩ rfl hl.1 rfl (Nat.le_of_ble_eq_true rfl) dL_isWhole_616 (fun v9 μ9 H locs hp hM hS => ?_)
        obtain ⟨u72, rfl, e9, h⟩ := hp
        rw [e9] at hM
        refine W.cs (cells' := 2228) (slots' := 13368) rfl rfl ?_
        refine lv_bipush (v := (-74)) S.1 S.2.1 dL_isWhole_619 (by decide) ?_
        refine lv_icmp_ne (tgt := 628) S.1 S.2.1 dL_isWhole_621 (by decide) (fun c73 => ?_) (fun c73 => ?_)
        · have h := h.1 c73
          refine W.widen (k := 2228) (n := 13368) (by omega) (by omega) ?_
          exact hB628  r0 x3 x4 x6 x7 x8 x9 x11 s0 μ H locs ls hM hS (lv_sub hl [1, 2, 3, 4, 5, 6, 7, 8, 9, 0] rfl) h
        · have h := h.2 c73
          refine lv_iconst (v := (nI 1)) S.1 S.2.1 dL_isWhole_624 (by decide) ?_
          refine lv_goto (tgt := 670) S.1 S.2.1 dL_isWhole_625 (by decide) ?_
          refine W.widen (k := 2229) (n := 13374) (by omega) (by omega) ?_
          exact hB670  r0 x3 x4 x6 x7 x8 x9 x11 s0 (nI 1) μ H locs ls hM hS (lv_sub hl [1, 2, 3, 4, 5, 6, 7, 8, 9, 0] rfl) h
  have hB595 : ∀ (r0 : Option Nat) (x3 : Int32) (x4 : Int32) (x6 : Int32) (x7 : Int32) (x8 : Int32) (x9 : Int32) (x11 : Int32) (μ : mmT) (H : Heap) (locs : List Loc) (ls : Array Slot), Mm G μ H → va_S (Ah G) s.heap H locs → lv_has ls 15 [(1, .ref (gX G 5)), (0, va_rf r0), (3, .int x3), (4, .int x4), (6, .int x6), (7, .int x7), (8, .int x8), (9, .int x9), (11, .int x11)] → w_L_isWhole_b595 G Q  r0 x3 x4 x6 x7 x8 x9 x11 μ → W p l e { frames := 10, cells := 2326, slots := 13956, locals := 272 } s m args below meth c H locs (2226) (13356) (MQ below (mQ G (pI Q)) args s 2326 13956 (Ah G)) (F0 m 595 ls []) := by
    intro  r0 x3 x4 x6 x7 x8 x9 x11 μ H locs ls hM hS hl h
    unfold w_L_isWhole_b595 at h
    refine lv_iconst (v := (nI 0)) S.1 S.2.1 dL_isWhole_595 (by decide) ?_
    refine W.widen (k := 2226) (n := 13356) (by omega) (by omega) ?_
    exact hB596  r0 x3 x4 x6 x7 x8 x9 x11 (nI 0) μ H locs ls hM hS (lv_sub hl [0, 1, 2, 3, 4, 5, 6, 7, 8] rfl) h
  have hB557 : ∀ (r0 : Option Nat) (x3 : Int32) (x4 : Int32) (x6 : Int32) (x7 : Int32) (x8 : Int32) (x9 : Int32) (x11 : Int32) (μ : mmT) (H : Heap) (locs : List Loc) (ls : Array Slot), Mm G μ H → va_S (Ah G) s.heap H locs → lv_has ls 15 [(1, .ref (gX G 5)), (0, va_rf r0), (3, .int x3), (4, .int x4), (6, .int x6), (7, .int x7), (8, .int x8), (9, .int x9), (11, .int x11)] → w_L_isWhole_b557 G Q  r0 x3 x4 x6 x7 x8 x9 x11 μ → W p l e { frames := 10, cells := 2326, slots := 13956, locals := 272 } s m args below meth c H locs (2225) (13350) (MQ below (mQ G (pI Q)) args s 2326 13956 (Ah G)) (F0 m 557 ls []) := by
    intro  r0 x3 x4 x6 x7 x8 x9 x11 μ H locs ls hM hS hl h
    unfold w_L_isWhole_b557 at h
    refine lv_iconst (v := (nI 0)) S.1 S.2.1 dL_isWhole_557 (by decide) ?_
    refine lv_goto (tgt := 596) S.1 S.2.1 dL_isWhole_558 (by decide) ?_
    refine W.widen (k := 2226) (n := 13356) (by omega) (by omega) ?_
    exact hB596  r0 x3 x4 x6 x7 x8 x9 x11 (nI 0) μ H locs ls hM hS (lv_sub hl [0, 1, 2, 3, 4, 5, 6, 7, 8] rfl) h
  have hB524 : ∀ (r0 : Option Nat) (x3 : Int32) (x4 : Int32) (x5 : Int32) (x6 : Int32) (x7 : Int32) (x8 : Int32) (x9 : Int32) (s0 : Int32) (μ : mmT) (H : Heap) (locs : List Loc) (ls : Array Slot), Mm G μ H → va_S (Ah G) s.heap H locs → lv_has ls 15 [(1, .ref (gX G 5)), (0, va_rf r0), (3, .int x3), (4, .int x4), (5, .int x5), (6, .int x6), (7, .int x7), (8, .int x8), (9, .int x9)] → w_L_isWhole_b524 G Q  r0 x3 x4 x5 x6 x7 x8 x9 s0 μ → W p l e { frames := 10, cells := 2326, slots := 13956, locals := 272 } s m args below meth c H locs (2223) (13338) (MQ below (mQ G (pI Q)) args s 2326 13956 (Ah G)) (F0 m 524 ls [.int s0]) := by
    intro  r0 x3 x4 x5 x6 x7 x8 x9 s0 μ H locs ls hM hS hl h
    unfold w_L_isWhole_b524 at h
    refine lv_istore (lv' := [(11, .int s0), (1, .ref (gX G 5)), (0, va_rf r0), (3, .int x3), (4, .int x4), (5, .int x5), (6, .int x6), (7, .int x7), (8, .int x8), (9, .int x9)]) S.1 S.2.1 dL_isWhole_524 hl (by decide) rfl (fun ls hl => ?_)
    refine lv_iload S.1 S.2.1 dL_isWhole_526 (lv_at hl 4 rfl) ?_
    refine lv_if_ne (tgt := 561) S.1 S.2.1 dL_isWhole_528 (by decide) (fun c22 => ?_) (fun c22 => ?_)
    · have h := h.1 c22
      refine mz_aload_n (x := r0) S.1 S.2.1 dL_isWhole_561 rfl (lv_at hl 2 rfl) ?_
      refine mz_SH S hG hM hS (As := [va_rf r0]) (rest := []) (c_L_meanAttempts hl0 h) yh_L_meanAttempts tw_1288 tw_1289 ⟨Nat.le_of_ble_eq_true rfl, Nat.le_of_ble_eq_true rfl⟩ ⟨(Nat.le_of_ble_eq_true rfl), (Nat.le_of_ble_eq_true rfl)⟩ rfl hl.1 rfl (Nat.le_of_ble_eq_true rfl) dL_isWhole_562 (fun v9 μ9 H locs hp hM hS => ?_)
      obtain ⟨u23, rfl, e9, h⟩ := hp
      rw [e9] at hM
      refine W.cs (cells' := 2224) (slots' := 13344) rfl rfl ?_
      refine lv_iload S.1 S.2.1 dL_isWhole_565 (lv_at hl 5 rfl) ?_
      refine lv_i2d S.1 S.2.1 dL_isWhole_567 ?_
      refine lv_iload S.1 S.2.1 dL_isWhole_568 (lv_at hl 4 rfl) ?_
      refine lv_i2d S.1 S.2.1 dL_isWhole_570 ?_
      obtain ⟨g24, h⟩ := h
      refine lv_ddiv S.1 S.2.1 dL_isWhole_571 g24 ?_
      refine lv_dcmp S.1 S.2.1 dL_isWhole_572 ?_
      refine lv_if_ne (tgt := 595) S.1 S.2.1 dL_isWhole_573 (by decide) (fun c25 => ?_) (fun c25 => ?_)
      · have h := h.1 c25
        refine W.widen (k := 2226) (n := 13356) (by omega) (by omega) ?_
        exact hB595  r0 x3 x4 x6 x7 x8 x9 s0 μ H locs ls hM hS (lv_sub hl [1, 2, 3, 4, 6, 7, 8, 9, 0] rfl) h
      · have h := h.2 c25
        refine mz_aload_n (x := r0) S.1 S.2.1 dL_isWhole_576 rfl (lv_at hl 2 rfl) ?_
        refine mz_SH S hG hM hS (As := [va_rf r0]) (rest := []) (c_L_meanAttemptsBits hl0 h) yh_L_meanAttemptsBits tw_1321 tw_1322 ⟨Nat.le_of_ble_eq_true rfl, Nat.le_of_ble_eq_true rfl⟩ ⟨(Nat.le_of_ble_eq_true rfl), (Nat.le_of_ble_eq_true rfl)⟩ rfl hl.1 rfl (Nat.le_of_ble_eq_true rfl) dL_isWhole_577 (fun v9 μ9 H locs hp hM hS => ?_)
        obtain ⟨u74, rfl, e9, h⟩ := hp
        rw [e9] at hM
        refine W.cs (cells' := 2225) (slots' := 13350) rfl rfl ?_
        refine mz_aload_n (x := r0) S.1 S.2.1 dL_isWhole_580 rfl (lv_at hl 2 rfl) ?_
        refine mz_SH S hG hM hS (As := [va_rf r0]) (rest := [.long u74]) (c_L_meanAttempts hl0 h) yh_L_meanAttempts tw_1288 tw_1289 ⟨Nat.le_of_ble_eq_true rfl, Nat.le_of_ble_eq_true rfl⟩ ⟨(Nat.le_of_ble_eq_true rfl), (Nat.le_of_ble_eq_true rfl)⟩ rfl hl.1 rfl (Nat.le_of_ble_eq_true rfl) dL_isWhole_581 (fun v9 μ9 H locs hp hM hS => ?_)
        obtain ⟨u75, rfl, e9, h⟩ := hp
        rw [e9] at hM
        refine W.cs (cells' := 2226) (slots' := 13356) rfl rfl ?_
        refine mz_S S hG hM hS (As := [.double u75]) (rest := [.long u74]) (c_Jxe99ae_doubleToLongBits_ccdee h) yf_Jxe99ae_doubleToLongBits_ccdee tw_1333 tw_1334 ⟨Nat.le_of_ble_eq_true rfl, Nat.le_of_ble_eq_true rfl⟩ ⟨(Nat.le_of_ble_eq_true rfl), (Nat.le_of_ble_eq_true rfl)⟩ rfl hl.1 rfl (Nat.le_of_ble_eq_true rfl) dL_isWhole_584 (fun v9 μ9 H locs hp hM hS => ?_)
        obtain ⟨u76, rfl, e9, h⟩ := hp
        rw [e9] at hM
        refine W.cs (cells' := 2226) (slots' := 13356) rfl rfl ?_
        refine W.lcmp S.1 S.2.1 dL_isWhole_587 ?_
        refine lv_if_ne (tgt := 595) S.1 S.2.1 dL_isWhole_588 (by decide) (fun c77 => ?_) (fun c77 => ?_)
        · have h := h.1 c77
          refine W.widen (k := 2226) (n := 13356) (by omega) (by omega) ?_
          exact hB595  r0 x3 x4 x6 x7 x8 x9 s0 μ H locs ls hM hS (lv_sub hl [1, 2, 3, 4, 6, 7, 8, 9, 0] rfl) h
        · have h := h.2 c77
          refine lv_iconst (v := (nI 1)) S.1 S.2.1 dL_isWhole_591 (by decide) ?_
          refine lv_goto (tgt := 596) S.1 S.2.1 dL_isWhole_592 (by decide) ?_
          refine W.widen (k := 2226) (n := 13356) (by omega) (by omega) ?_
          exact hB596  r0 x3 x4 x6 x7 x8 x9 s0 (nI 1) μ H locs ls hM hS (lv_sub hl [1, 2, 3, 4, 6, 7, 8, 9, 0] rfl) h
    · have h := h.2 c22
      refine mz_aload_n (x := r0) S.1 S.2.1 dL_isWhole_531 rfl (lv_at hl 2 rfl) ?_
      refine mz_SH S hG hM hS (As := [va_rf r0]) (rest := []) (c_L_meanAttempts hl0 h) yh_L_meanAttempts tw_1288 tw_1289 ⟨Nat.le_of_ble_eq_true rfl, Nat.le_of_ble_eq_true rfl⟩ ⟨(Nat.le_of_ble_eq_true rfl), (Nat.le_of_ble_eq_true rfl)⟩ rfl hl.1 rfl (Nat.le_of_ble_eq_true rfl) dL_isWhole_532 (fun v9 μ9 H locs hp hM hS => ?_)
      obtain ⟨u78, rfl, e9, h⟩ := hp
      rw [e9] at hM
      refine W.cs (cells' := 2224) (slots' := 13344) rfl rfl ?_
      refine lv_ldc2d (v := 13858279740860792832) S.1 S.2.1 S.2.2.2.1 (S.2.2.2.2 _ tw_1320) dL_isWhole_535 ?_
      refine lv_dcmp S.1 S.2.1 dL_isWhole_538 ?_
      refine lv_if_ne (tgt := 557) S.1 S.2.1 dL_isWhole_539 (by decide) (fun c79 => ?_) (fun c79 => ?_)
      · have h := h.1 c79
        refine W.widen (k := 2225) (n := 13350) (by omega) (by omega) ?_
        exact hB557  r0 x3 x4 x6 x7 x8 x9 s0 μ H locs ls hM hS (lv_sub hl [1, 2, 3, 4, 6, 7, 8, 9, 0] rfl) h
      · have h := h.2 c79
        refine mz_aload_n (x := r0) S.1 S.2.1 dL_isWhole_542 rfl (lv_at hl 2 rfl) ?_
        refine mz_SH S hG hM hS (As := [va_rf r0]) (rest := []) (c_L_meanAttemptsBits hl0 h) yh_L_meanAttemptsBits tw_1321 tw_1322 ⟨Nat.le_of_ble_eq_true rfl, Nat.le_of_ble_eq_true rfl⟩ ⟨(Nat.le_of_ble_eq_true rfl), (Nat.le_of_ble_eq_true rfl)⟩ rfl hl.1 rfl (Nat.le_of_ble_eq_true rfl) dL_isWhole_543 (fun v9 μ9 H locs hp hM hS => ?_)
        obtain ⟨u80, rfl, e9, h⟩ := hp
        rw [e9] at hM
        refine W.cs (cells' := 2225) (slots' := 13350) rfl rfl ?_
        refine lv_ldc2 (v := (-74)) S.1 S.2.1 S.2.2.2.1 (S.2.2.2.2 _ tw_1332) dL_isWhole_546 ?_
        refine W.lcmp S.1 S.2.1 dL_isWhole_549 ?_
        refine lv_if_ne (tgt := 557) S.1 S.2.1 dL_isWhole_550 (by decide) (fun c81 => ?_) (fun c81 => ?_)
        · have h := h.1 c81
          refine W.widen (k := 2225) (n := 13350) (by omega) (by omega) ?_
          exact hB557  r0 x3 x4 x6 x7 x8 x9 s0 μ H locs ls hM hS (lv_sub hl [1, 2, 3, 4, 6, 7, 8, 9, 0] rfl) h
        · have h := h.2 c81
          refine lv_iconst (v := (nI 1)) S.1 S.2.1 dL_isWhole_553 (by decide) ?_
          refine lv_goto (tgt := 596) S.1 S.2.1 dL_isWhole_554 (by decide) ?_
          refine W.widen (k := 2226) (n := 13356) (by omega) (by omega) ?_
          exact hB596  r0 x3 x4 x6 x7 x8 x9 s0 (nI 1) μ H locs ls hM hS (lv_sub hl [1, 2, 3, 4, 6, 7, 8, 9, 0] rfl) h
  have hB523 : ∀ (r0 : Option Nat) (x3 : Int32) (x4 : Int32) (x5 : Int32) (x6 : Int32) (x7 : Int32) (x8 : Int32) (x9 : Int32) (μ : mmT) (H : Heap) (locs : List Loc) (ls : Array Slot), Mm G μ H → va_S (Ah G) s.heap H locs → lv_has ls 15 [(1, .ref (gX G 5)), (0, va_rf r0), (3, .int x3), (4, .int x4), (5, .int x5), (6, .int x6), (7, .int x7), (8, .int x8), (9, .int x9)] → w_L_isWhole_b523 G Q  r0 x3 x4 x5 x6 x7 x8 x9 μ → W p l e { frames := 10, cells := 2326, slots := 13956, locals := 272 } s m args below meth c H locs (2223) (13338) (MQ below (mQ G (pI Q)) args s 2326 13956 (Ah G)) (F0 m 523 ls []) := by
    intro  r0 x3 x4 x5 x6 x7 x8 x9 μ H locs ls hM hS hl h
    unfold w_L_isWhole_b523 at h
    refine lv_iconst (v := (nI 0)) S.1 S.2.1 dL_isWhole_523 (by decide) ?_
    refine W.widen (k := 2223) (n := 13338) (by omega) (by omega) ?_
    exact hB524  r0 x3 x4 x5 x6 x7 x8 x9 (nI 0) μ H locs ls hM hS (lv_sub hl [0, 1, 2, 3, 4, 5, 6, 7, 8] rfl) h
  have hB519 : ∀ (r0 : Option Nat) (x3 : Int32) (x4 : Int32) (x5 : Int32) (x6 : Int32) (x7 : Int32) (x8 : Int32) (x9 : Int32) (μ : mmT) (H : Heap) (locs : List Loc) (ls : Array Slot), Mm G μ H → va_S (Ah G) s.heap H locs → lv_has ls 15 [(1, .ref (gX G 5)), (0, va_rf r0), (3, .int x3), (4, .int x4), (5, .int x5), (6, .int x6), (7, .int x7), (8, .int x8), (9, .int x9)] → w_L_isWhole_b519 G Q  r0 x3 x4 x5 x6 x7 x8 x9 μ → W p l e { frames := 10, cells := 2326, slots := 13956, locals := 272 } s m args below meth c H locs (2223) (13338) (MQ below (mQ G (pI Q)) args s 2326 13956 (Ah G)) (F0 m 519 ls []) := by
    intro  r0 x3 x4 x5 x6 x7 x8 x9 μ H locs ls hM hS hl h
    unfold w_L_isWhole_b519 at h
    refine lv_iconst (v := (nI 1)) S.1 S.2.1 dL_isWhole_519 (by decide) ?_
    refine lv_goto (tgt := 524) S.1 S.2.1 dL_isWhole_520 (by decide) ?_
    refine W.widen (k := 2223) (n := 13338) (by omega) (by omega) ?_
    exact hB524  r0 x3 x4 x5 x6 x7 x8 x9 (nI 1) μ H locs ls hM hS (lv_sub hl [0, 1, 2, 3, 4, 5, 6, 7, 8] rfl) h
  have hB396 : ∀ (μ : mmT) (H : Heap) (locs : List Loc) (ls : Array Slot), Mm G μ H → va_S (Ah G) s.heap H locs → lv_has ls 15 [(1, .ref (gX G 5))] → w_L_isWhole_b396 G Q  μ → W p l e { frames := 10, cells := 2326, slots := 13956, locals := 272 } s m args below meth c H locs (2324) (13944) (MQ below (mQ G (pI Q)) args s 2326 13956 (Ah G)) (F0 m 396 ls []) := by
    intro  μ H locs ls hM hS hl h
    unfold w_L_isWhole_b396 at h
    refine lv_iconst (v := (nI 0)) S.1 S.2.1 dL_isWhole_396 (by decide) ?_
    exact mz_iret S hr hlk hM hS rfl (Nat.le_of_ble_eq_true rfl) (Nat.le_of_ble_eq_true rfl) dL_isWhole_397 ⟨_, rfl, h⟩
  have hB443 : ∀ (μ : mmT) (H : Heap) (locs : List Loc) (ls : Array Slot), Mm G μ H → va_S (Ah G) s.heap H locs → lv_has ls 15 [(1, .ref (gX G 5))] → w_L_isWhole_b443 G Q  μ → W p l e { frames := 10, cells := 2326, slots := 13956, locals := 272 } s m args below meth c H locs (2326) (13956) (MQ below (mQ G (pI Q)) args s 2326 13956 (Ah G)) (F0 m 443 ls []) := by
    intro  μ H locs ls hM hS hl h
    unfold w_L_isWhole_b443 at h
    refine lv_iconst (v := (nI 0)) S.1 S.2.1 dL_isWhole_443 (by decide) ?_
    exact mz_iret S hr hlk hM hS rfl (Nat.le_of_ble_eq_true rfl) (Nat.le_of_ble_eq_true rfl) dL_isWhole_444 ⟨_, rfl, h⟩
  have hB445 : ∀ (K300 : Option Nat → Int32 → Int32 → Int32 → Int32 → Int32 → Int32 → Int32 → Int32 → Int32 → Nat → mmT → Prop) (kK300 : ∀ (r0 : Option Nat) (x2 : Int32) (x3 : Int32) (x4 : Int32) (x5 : Int32) (x6 : Int32) (x7 : Int32) (x8 : Int32) (x9 : Int32) (x10 : Int32) (t300 : Nat) (μ : mmT) (H : Heap) (locs : List Loc) (ls : Array Slot), Mm G μ H → va_S (Ah G) s.heap H locs → lv_has ls 15 [(1, .ref (gX G 5)), (0, va_rf r0), (2, .int x2), (3, .int x3), (4, .int x4), (5, .int x5), (6, .int x6), (7, .int x7), (8, .int x8), (9, .int x9), (10, .int x10)] → K300 r0 x2 x3 x4 x5 x6 x7 x8 x9 x10 t300 μ → W p l e { frames := 10, cells := 2326, slots := 13956, locals := 272 } s m args below meth c H locs (1577 + 107 * t300) (9462 + 642 * t300) (MQ below (mQ G (pI Q)) args s 2326 13956 (Ah G)) (F0 m 300 ls [])) (r0 : Option Nat) (x2 : Int32) (x3 : Int32) (x4 : Int32) (x5 : Int32) (x6 : Int32) (x7 : Int32) (x8 : Int32) (x9 : Int32) (x10 : Int32) (t300 : Nat) (μ : mmT) (H : Heap) (locs : List Loc) (ls : Array Slot), Mm G μ H → va_S (Ah G) s.heap H locs → lv_has ls 15 [(1, .ref (gX G 5)), (0, va_rf r0), (2, .int x2), (3, .int x3), (4, .int x4), (5, .int x5), (6, .int x6), (7, .int x7), (8, .int x8), (9, .int x9), (10, .int x10)] → w_L_isWhole_b445 G Q K300 r0 x2 x3 x4 x5 x6 x7 x8 x9 x10 t300 μ → W p l e { frames := 10, cells := 2326, slots := 13956, locals := 272 } s m args below meth c H locs (1684 + 107 * t300) (10104 + 642 * t300) (MQ below (mQ G (pI Q)) args s 2326 13956 (Ah G)) (F0 m 445 ls []) := by
    intro K300 kK300 r0 x2 x3 x4 x5 x6 x7 x8 x9 x10 t300 μ H locs ls hM hS hl h
    unfold w_L_isWhole_b445 at h
    obtain ⟨ht300, h⟩ := h
    refine lv_iinc (v := (x10 + nI 1)) (lv' := [(10, .int (x10 + nI 1)), (1, .ref (gX G 5)), (0, va_rf r0), (2, .int x2), (3, .int x3), (4, .int x4), (5, .int x5), (6, .int x6), (7, .int x7), (8, .int x8), (9, .int x9)]) S.1 S.2.1 dL_isWhole_445 hl (k := 10) rfl rfl (by decide) rfl (fun ls hl => ?_)
    refine lv_goto (tgt := 300) S.1 S.2.1 dL_isWhole_448 (by decide) ?_
    refine W.widen (k := 1577 + 107 * (t300 + 1)) (n := 9462 + 642 * (t300 + 1)) (by omega) (by omega) ?_
    exact kK300 r0 x2 x3 x4 x5 x6 x7 x8 x9 (x10 + nI 1) (t300 + 1) μ H locs ls hM hS (lv_sub hl [1, 2, 3, 4, 5, 6, 7, 8, 9, 10, 0] rfl) h
  have hB424 : ∀ (K300 : Option Nat → Int32 → Int32 → Int32 → Int32 → Int32 → Int32 → Int32 → Int32 → Int32 → Nat → mmT → Prop) (kK300 : ∀ (r0 : Option Nat) (x2 : Int32) (x3 : Int32) (x4 : Int32) (x5 : Int32) (x6 : Int32) (x7 : Int32) (x8 : Int32) (x9 : Int32) (x10 : Int32) (t300 : Nat) (μ : mmT) (H : Heap) (locs : List Loc) (ls : Array Slot), Mm G μ H → va_S (Ah G) s.heap H locs → lv_has ls 15 [(1, .ref (gX G 5)), (0, va_rf r0), (2, .int x2), (3, .int x3), (4, .int x4), (5, .int x5), (6, .int x6), (7, .int x7), (8, .int x8), (9, .int x9), (10, .int x10)] → K300 r0 x2 x3 x4 x5 x6 x7 x8 x9 x10 t300 μ → W p l e { frames := 10, cells := 2326, slots := 13956, locals := 272 } s m args below meth c H locs (1577 + 107 * t300) (9462 + 642 * t300) (MQ below (mQ G (pI Q)) args s 2326 13956 (Ah G)) (F0 m 300 ls [])) (r0 : Option Nat) (x2 : Int32) (x3 : Int32) (x4 : Int32) (x5 : Int32) (x6 : Int32) (x7 : Int32) (x8 : Int32) (x9 : Int32) (x10 : Int32) (x12 : Int32) (s0 : Int32) (t300 : Nat) (μ : mmT) (H : Heap) (locs : List Loc) (ls : Array Slot), Mm G μ H → va_S (Ah G) s.heap H locs → lv_has ls 15 [(1, .ref (gX G 5)), (0, va_rf r0), (2, .int x2), (3, .int x3), (4, .int x4), (5, .int x5), (6, .int x6), (7, .int x7), (8, .int x8), (9, .int x9), (10, .int x10), (12, .int x12)] → w_L_isWhole_b424 G Q K300 r0 x2 x3 x4 x5 x6 x7 x8 x9 x10 x12 s0 t300 μ → W p l e { frames := 10, cells := 2326, slots := 13956, locals := 272 } s m args below meth c H locs (1684 + 107 * t300) (10104 + 642 * t300) (MQ below (mQ G (pI Q)) args s 2326 13956 (Ah G)) (F0 m 424 ls [.int s0]) := by
    intro K300 kK300 r0 x2 x3 x4 x5 x6 x7 x8 x9 x10 x12 s0 t300 μ H locs ls hM hS hl h
    unfold w_L_isWhole_b424 at h
    obtain ⟨ht300, h⟩ := h
    refine lv_istore (lv' := [(13, .int s0), (1, .ref (gX G 5)), (0, va_rf r0), (2, .int x2), (3, .int x3), (4, .int x4), (5, .int x5), (6, .int x6), (7, .int x7), (8, .int x8), (9, .int x9), (10, .int x10), (12, .int x12)]) S.1 S.2.1 dL_isWhole_424 hl (by decide) rfl (fun ls hl => ?_)
    refine lv_iload S.1 S.2.1 dL_isWhole_426 (lv_at hl 12 rfl) ?_
    refine lv_if_lt (tgt := 443) S.1 S.2.1 dL_isWhole_428 (by decide) (fun c101 => ?_) (fun c101 => ?_)
    · have h := h.1 c101
      refine W.widen (k := 2326) (n := 13956) (by omega) (by omega) ?_
      exact hB443  μ H locs ls hM hS (lv_sub hl [1] rfl) h
    · have h := h.2 c101
      refine lv_iload S.1 S.2.1 dL_isWhole_431 (lv_at hl 11 rfl) ?_
      refine lv_if_le (tgt := 445) S.1 S.2.1 dL_isWhole_433 (by decide) (fun c102 => ?_) (fun c102 => ?_)
      · have h := h.1 c102
        refine W.widen (k := 1684 + 107 * t300) (n := 10104 + 642 * t300) (by omega) (by omega) ?_
        exact hB445 K300 kK300 r0 x2 x3 x4 x5 x6 x7 x8 x9 x10 t300 μ H locs ls hM hS (lv_sub hl [1, 2, 3, 4, 5, 6, 7, 8, 9, 10, 11] rfl) h
      · have h := h.2 c102
        refine lv_iload S.1 S.2.1 dL_isWhole_436 (lv_at hl 12 rfl) ?_
        refine lv_iload S.1 S.2.1 dL_isWhole_438 (lv_at hl 0 rfl) ?_
        refine lv_icmp_ne (tgt := 445) S.1 S.2.1 dL_isWhole_440 (by decide) (fun c103 => ?_) (fun c103 => ?_)
        · have h := h.1 c103
          refine W.widen (k := 1684 + 107 * t300) (n := 10104 + 642 * t300) (by omega) (by omega) ?_
          exact hB445 K300 kK300 r0 x2 x3 x4 x5 x6 x7 x8 x9 x10 t300 μ H locs ls hM hS (lv_sub hl [1, 2, 3, 4, 5, 6, 7, 8, 9, 10, 11] rfl) h
        · have h := h.2 c103
          refine W.widen (k := 2326) (n := 13956) (by omega) (by omega) ?_
          exact hB443  μ H locs ls hM hS (lv_sub hl [1] rfl) h
  have hB326 : ∀ (K300 : Option Nat → Int32 → Int32 → Int32 → Int32 → Int32 → Int32 → Int32 → Int32 → Int32 → Nat → mmT → Prop) (kK300 : ∀ (r0 : Option Nat) (x2 : Int32) (x3 : Int32) (x4 : Int32) (x5 : Int32) (x6 : Int32) (x7 : Int32) (x8 : Int32) (x9 : Int32) (x10 : Int32) (t300 : Nat) (μ : mmT) (H : Heap) (locs : List Loc) (ls : Array Slot), Mm G μ H → va_S (Ah G) s.heap H locs → lv_has ls 15 [(1, .ref (gX G 5)), (0, va_rf r0), (2, .int x2), (3, .int x3), (4, .int x4), (5, .int x5), (6, .int x6), (7, .int x7), (8, .int x8), (9, .int x9), (10, .int x10)] → K300 r0 x2 x3 x4 x5 x6 x7 x8 x9 x10 t300 μ → W p l e { frames := 10, cells := 2326, slots := 13956, locals := 272 } s m args below meth c H locs (1577 + 107 * t300) (9462 + 642 * t300) (MQ below (mQ G (pI Q)) args s 2326 13956 (Ah G)) (F0 m 300 ls [])) (n : Nat) (r0 : Option Nat) (x2 : Int32) (x3 : Int32) (x4 : Int32) (x5 : Int32) (x6 : Int32) (x7 : Int32) (x8 : Int32) (x9 : Int32) (x10 : Int32) (x11 : Int32) (x12 : Int32) (t300 : Nat) (t326 : Nat) (μ : mmT) (H : Heap) (locs : List Loc) (ls : Array Slot), Mm G μ H → va_S (Ah G) s.heap H locs → lv_has ls 15 [(1, .ref (gX G 5)), (0, va_rf r0), (2, .int x2), (3, .int x3), (4, .int x4), (5, .int x5), (6, .int x6), (7, .int x7), (8, .int x8), (9, .int x9), (10, .int x10), (11, .int x11), (12, .int x12)] → w_L_isWhole_l326 G Q K300 n r0 x2 x3 x4 x5 x6 x7 x8 x9 x10 x11 x12 t300 t326 μ → W p l e { frames := 10, cells := 2326, slots := 13956, locals := 272 } s m args below meth c H locs (1578 + 107 * t300 + 1 * t326) (9468 + 642 * t300 + 6 * t326) (MQ below (mQ G (pI Q)) args s 2326 13956 (Ah G)) (F0 m 326 ls []) := by
    intro K300 kK300 n
    induction n with
    | zero =>
      intro r0 x2 x3 x4 x5 x6 x7 x8 x9 x10 x11 x12 t300 t326 μ H locs ls hM hS hl h
      exact False.elim h
    | succ n ih =>
      intro r0 x2 x3 x4 x5 x6 x7 x8 x9 x10 x11 x12 t300 t326 μ H locs ls hM hS hl h
      have h : w_L_isWhole_b326 G Q K300 (w_L_isWhole_l326 G Q K300 n) r0 x2 x3 x4 x5 x6 x7 x8 x9 x10 x11 x12 t300 t326 μ := h
      unfold w_L_isWhole_b326 at h
      obtain ⟨ht300, h⟩ := h
      obtain ⟨ht326, h⟩ := h
      refine lv_iload S.1 S.2.1 dL_isWhole_326 (lv_at hl 12 rfl) ?_
      refine lv_bipush (v := (nI 100)) S.1 S.2.1 dL_isWhole_328 (by decide) ?_
      refine lv_icmp_ge (tgt := 352) S.1 S.2.1 dL_isWhole_330 (by decide) (fun c89 => ?_) (fun c89 => ?_)
      · have h := h.1 c89
        refine mz_aload_n (x := r0) S.1 S.2.1 dL_isWhole_352 rfl (lv_at hl 1 rfl) ?_
        refine lv_iload S.1 S.2.1 dL_isWhole_353 (lv_at hl 10 rfl) ?_
        refine mz_SH S hG hM hS (As := [va_rf r0, .int x10]) (rest := []) (c_L_inboxSize hl0 h) yh_L_inboxSize tw_1149 tw_1150 ⟨Nat.le_of_ble_eq_true rfl, Nat.le_of_ble_eq_true rfl⟩ ⟨(by show (1578 + 107 * t300 + 1 * t326) + 1 ≤ 2326; omega), (by show (9468 + 642 * t300 + 6 * t326) + 6 ≤ 13956; omega)⟩ rfl hl.1 rfl (Nat.le_of_ble_eq_true rfl) dL_isWhole_355 (fun v9 μ9 H locs hp hM hS => ?_)
        obtain ⟨u90, rfl, e9, h⟩ := hp
        rw [e9] at hM
        refine W.cs (cells' := 1579 + 107 * t300 + 1 * t326) (slots' := 9474 + 642 * t300 + 6 * t326) (by first | omega | (dsimp only; omega)) (by first | omega | (dsimp only; omega)) ?_
        refine lv_bipush (v := (nI 8)) S.1 S.2.1 dL_isWhole_358 (by decide) ?_
        refine lv_icmp_gt (tgt := 396) S.1 S.2.1 dL_isWhole_360 (by decide) (fun c91 => ?_) (fun c91 => ?_)
        · have h := h.1 c91
          refine W.widen (k := 2324) (n := 13944) (by omega) (by omega) ?_
          exact hB396  μ H locs ls hM hS (lv_sub hl [0] rfl) h
        · have h := h.2 c91
          refine mz_aload_n (x := r0) S.1 S.2.1 dL_isWhole_363 rfl (lv_at hl 1 rfl) ?_
          refine lv_iload S.1 S.2.1 dL_isWhole_364 (lv_at hl 10 rfl) ?_
          refine mz_SH S hG hM hS (As := [va_rf r0, .int x10]) (rest := []) (c_L_rememberedCount hl0 h) yh_L_rememberedCount tw_1142 tw_1143 ⟨Nat.le_of_ble_eq_true rfl, Nat.le_of_ble_eq_true rfl⟩ ⟨(by show (1579 + 107 * t300 + 1 * t326) + 1 ≤ 2326; omega), (by show (9474 + 642 * t300 + 6 * t326) + 6 ≤ 13956; omega)⟩ rfl hl.1 rfl (Nat.le_of_ble_eq_true rfl) dL_isWhole_366 (fun v9 μ9 H locs hp hM hS => ?_)
          obtain ⟨u92, rfl, e9, h⟩ := hp
          rw [e9] at hM
          refine W.cs (cells' := 1580 + 107 * t300 + 1 * t326) (slots' := 9480 + 642 * t300 + 6 * t326) (by first | omega | (dsimp only; omega)) (by first | omega | (dsimp only; omega)) ?_
          refine lv_bipush (v := (nI 8)) S.1 S.2.1 dL_isWhole_369 (by decide) ?_
          refine lv_icmp_gt (tgt := 396) S.1 S.2.1 dL_isWhole_371 (by decide) (fun c93 => ?_) (fun c93 => ?_)
          · have h := h.1 c93
            refine W.widen (k := 2324) (n := 13944) (by omega) (by omega) ?_
            exact hB396  μ H locs ls hM hS (lv_sub hl [0] rfl) h
          · have h := h.2 c93
            refine lv_iload S.1 S.2.1 dL_isWhole_374 (lv_at hl 11 rfl) ?_
            refine mz_aload_n (x := r0) S.1 S.2.1 dL_isWhole_376 rfl (lv_at hl 1 rfl) ?_
            refine lv_iload S.1 S.2.1 dL_isWhole_377 (lv_at hl 10 rfl) ?_
            refine mz_SH S hG hM hS (As := [va_rf r0, .int x10]) (rest := [.int x11]) (c_L_rememberedCount hl0 h) yh_L_rememberedCount tw_1142 tw_1143 ⟨Nat.le_of_ble_eq_true rfl, Nat.le_of_ble_eq_true rfl⟩ ⟨(by show (1580 + 107 * t300 + 1 * t326) + 1 ≤ 2326; omega), (by show (9480 + 642 * t300 + 6 * t326) + 6 ≤ 13956; omega)⟩ rfl hl.1 rfl (Nat.le_of_ble_eq_true rfl) dL_isWhole_379 (fun v9 μ9 H locs hp hM hS => ?_)
            obtain ⟨u94, rfl, e9, h⟩ := hp
            rw [e9] at hM
            refine W.cs (cells' := 1581 + 107 * t300 + 1 * t326) (slots' := 9486 + 642 * t300 + 6 * t326) (by first | omega | (dsimp only; omega)) (by first | omega | (dsimp only; omega)) ?_
            refine lv_icmp_ne (tgt := 396) S.1 S.2.1 dL_isWhole_382 (by decide) (fun c95 => ?_) (fun c95 => ?_)
            · have h := h.1 c95
              refine W.widen (k := 2324) (n := 13944) (by omega) (by omega) ?_
              exact hB396  μ H locs ls hM hS (lv_sub hl [0] rfl) h
            · have h := h.2 c95
              refine mz_aload_n (x := r0) S.1 S.2.1 dL_isWhole_385 rfl (lv_at hl 1 rfl) ?_
              refine lv_iload S.1 S.2.1 dL_isWhole_386 (lv_at hl 10 rfl) ?_
              refine lv_bipush (v := (nI 100)) S.1 S.2.1 dL_isWhole_388 (by decide) ?_
              refine mz_SH S hG hM hS (As := [va_rf r0, .int x10, .int (nI 100)]) (rest := []) (c_L_remembers hl0 h) yh_L_remembers tw_1254 tw_1255 ⟨Nat.le_of_ble_eq_true rfl, Nat.le_of_ble_eq_true rfl⟩ ⟨(by show (1581 + 107 * t300 + 1 * t326) + 1 ≤ 2326; omega), (by show (9486 + 642 * t300 + 6 * t326) + 6 ≤ 13956; omega)⟩ rfl hl.1 rfl (Nat.le_of_ble_eq_true rfl) dL_isWhole_390 (fun v9 μ9 H locs hp hM hS => ?_)
              obtain ⟨u96, rfl, e9, h⟩ := hp
              rw [e9] at hM
              refine W.cs (cells' := 1582 + 107 * t300 + 1 * t326) (slots' := 9492 + 642 * t300 + 6 * t326) (by first | omega | (dsimp only; omega)) (by first | omega | (dsimp only; omega)) ?_
              refine lv_if_eq (tgt := 398) S.1 S.2.1 dL_isWhole_393 (by decide) (fun c97 => ?_) (fun c97 => ?_)
              · have h := h.1 c97
                refine mz_aload_n (x := r0) S.1 S.2.1 dL_isWhole_398 rfl (lv_at hl 1 rfl) ?_
                refine lv_iload S.1 S.2.1 dL_isWhole_399 (lv_at hl 10 rfl) ?_
                refine mz_SH S hG hM hS (As := [va_rf r0, .int x10]) (rest := []) (c_L_nestByDeliveries hl0 h) yh_L_nestByDeliveries tw_1262 tw_1263 ⟨Nat.le_of_ble_eq_true rfl, Nat.le_of_ble_eq_true rfl⟩ ⟨(by show (1582 + 107 * t300 + 1 * t326) + 1 ≤ 2326; omega), (by show (9492 + 642 * t300 + 6 * t326) + 6 ≤ 13956; omega)⟩ rfl hl.1 rfl (Nat.le_of_ble_eq_true rfl) dL_isWhole_401 (fun v9 μ9 H locs hp hM hS => ?_)
                obtain ⟨u98, rfl, e9, h⟩ := hp
                rw [e9] at hM
                refine W.cs (cells' := 1583 + 107 * t300 + 1 * t326) (slots' := 9498 + 642 * t300 + 6 * t326) (by first | omega | (dsimp only; omega)) (by first | omega | (dsimp only; omega)) ?_
                refine lv_istore (lv' := [(12, .int u98), (1, .ref (gX G 5)), (0, va_rf r0), (2, .int x2), (3, .int x3), (4, .int x4), (5, .int x5), (6, .int x6), (7, .int x7), (8, .int x8), (9, .int x9), (10, .int x10), (11, .int x11)]) S.1 S.2.1 dL_isWhole_404 hl (by decide) rfl (fun ls hl => ?_)
                refine lv_iload S.1 S.2.1 dL_isWhole_406 (lv_at hl 11 rfl) ?_
                refine lv_if_ne (tgt := 416) S.1 S.2.1 dL_isWhole_408 (by decide) (fun c99 => ?_) (fun c99 => ?_)
                · have h := h.1 c99
                  refine mz_aload_n (x := r0) S.1 S.2.1 dL_isWhole_416 rfl (lv_at hl 2 rfl) ?_
                  refine lv_iload S.1 S.2.1 dL_isWhole_417 (lv_at hl 11 rfl) ?_
                  refine lv_iconst (v := (nI 1)) S.1 S.2.1 dL_isWhole_419 (by decide) ?_
                  refine lv_isub S.1 S.2.1 dL_isWhole_420 ?_
                  refine mz_SH S hG hM hS (As := [va_rf r0, .int (x10 - (nI 1))]) (rest := []) (c_L_nestByDeliveries hl0 h) yh_L_nestByDeliveries tw_1262 tw_1263 ⟨Nat.le_of_ble_eq_true rfl, Nat.le_of_ble_eq_true rfl⟩ ⟨(by show (1583 + 107 * t300 + 1 * t326) + 1 ≤ 2326; omega), (by show (9498 + 642 * t300 + 6 * t326) + 6 ≤ 13956; omega)⟩ rfl hl.1 rfl (Nat.le_of_ble_eq_true rfl) dL_isWhole_421 (fun v9 μ9 H locs hp hM hS => ?_)
                  obtain ⟨u100, rfl, e9, h⟩ := hp
                  rw [e9] at hM
                  refine W.cs (cells' := 1584 + 107 * t300 + 1 * t326) (slots' := 9504 + 642 * t300 + 6 * t326) (by first | omega | (dsimp only; omega)) (by first | omega | (dsimp only; omega)) ?_
                  refine W.widen (k := 1684 + 107 * t300) (n := 10104 + 642 * t300) (by omega) (by omega) ?_
                  exact hB424 K300 kK300 r0 x2 x3 x4 x5 x6 x7 x8 x9 x10 u98 u100 t300 μ H locs ls hM hS (lv_sub hl [1, 2, 3, 4, 5, 6, 7, 8, 9, 10, 11, 0] rfl) h
                · have h := h.2 c99
                  refine lv_iload S.1 S.2.1 dL_isWhole_411 (lv_at hl 0 rfl) ?_
                  refine lv_goto (tgt := 424) S.1 S.2.1 dL_isWhole_413 (by decide) ?_
                  refine W.widen (k := 1684 + 107 * t300) (n := 10104 + 642 * t300) (by omega) (by omega) ?_
                  exact hB424 K300 kK300 r0 x2 x3 x4 x5 x6 x7 x8 x9 x10 u98 u98 t300 μ H locs ls hM hS (lv_sub hl [1, 2, 3, 4, 5, 6, 7, 8, 9, 10, 11, 0] rfl) h
              · have h := h.2 c97
                refine W.widen (k := 2324) (n := 13944) (by omega) (by omega) ?_
                exact hB396  μ H locs ls hM hS (lv_sub hl [0] rfl) h
      · have h := h.2 c89
        refine lv_iload S.1 S.2.1 dL_isWhole_333 (lv_at hl 11 rfl) ?_
        refine mz_aload_n (x := r0) S.1 S.2.1 dL_isWhole_335 rfl (lv_at hl 1 rfl) ?_
        refine lv_iload S.1 S.2.1 dL_isWhole_336 (lv_at hl 10 rfl) ?_
        refine lv_iload S.1 S.2.1 dL_isWhole_338 (lv_at hl 12 rfl) ?_
        refine mz_SH S hG hM hS (As := [va_rf r0, .int x10, .int x12]) (rest := [.int x11]) (c_L_remembers hl0 h) yh_L_remembers tw_1254 tw_1255 ⟨Nat.le_of_ble_eq_true rfl, Nat.le_of_ble_eq_true rfl⟩ ⟨(by show (1578 + 107 * t300 + 1 * t326) + 1 ≤ 2326; omega), (by show (9468 + 642 * t300 + 6 * t326) + 6 ≤ 13956; omega)⟩ rfl hl.1 rfl (Nat.le_of_ble_eq_true rfl) dL_isWhole_340 (fun v9 μ9 H locs hp hM hS => ?_)
        obtain ⟨u104, rfl, e9, h⟩ := hp
        rw [e9] at hM
        refine W.cs (cells' := 1579 + 107 * t300 + 1 * t326) (slots' := 9474 + 642 * t300 + 6 * t326) (by first | omega | (dsimp only; omega)) (by first | omega | (dsimp only; omega)) ?_
        refine lv_iadd S.1 S.2.1 dL_isWhole_343 ?_
        refine lv_istore (lv' := [(11, .int (x11 + u104)), (1, .ref (gX G 5)), (0, va_rf r0), (2, .int x2), (3, .int x3), (4, .int x4), (5, .int x5), (6, .int x6), (7, .int x7), (8, .int x8), (9, .int x9), (10, .int x10), (12, .int x12)]) S.1 S.2.1 dL_isWhole_344 hl (by decide) rfl (fun ls hl => ?_)
        refine lv_iinc (v := (x12 + nI 1)) (lv' := [(12, .int (x12 + nI 1)), (11, .int (x11 + u104)), (1, .ref (gX G 5)), (0, va_rf r0), (2, .int x2), (3, .int x3), (4, .int x4), (5, .int x5), (6, .int x6), (7, .int x7), (8, .int x8), (9, .int x9), (10, .int x10)]) S.1 S.2.1 dL_isWhole_346 hl (k := 12) rfl rfl (by decide) rfl (fun ls hl => ?_)
        refine lv_goto (tgt := 326) S.1 S.2.1 dL_isWhole_349 (by decide) ?_
        refine W.widen (k := 1578 + 107 * t300 + 1 * (t326 + 1)) (n := 9468 + 642 * t300 + 6 * (t326 + 1)) (by omega) (by omega) ?_
        exact ih r0 x2 x3 x4 x5 x6 x7 x8 x9 x10 (x11 + u104) (x12 + nI 1) t300 (t326 + 1) μ H locs ls hM hS (lv_sub hl [2, 3, 4, 5, 6, 7, 8, 9, 10, 11, 12, 1, 0] rfl) h
  have hB300 : ∀ (n : Nat) (r0 : Option Nat) (x2 : Int32) (x3 : Int32) (x4 : Int32) (x5 : Int32) (x6 : Int32) (x7 : Int32) (x8 : Int32) (x9 : Int32) (x10 : Int32) (t300 : Nat) (μ : mmT) (H : Heap) (locs : List Loc) (ls : Array Slot), Mm G μ H → va_S (Ah G) s.heap H locs → lv_has ls 15 [(1, .ref (gX G 5)), (0, va_rf r0), (2, .int x2), (3, .int x3), (4, .int x4), (5, .int x5), (6, .int x6), (7, .int x7), (8, .int x8), (9, .int x9), (10, .int x10)] → w_L_isWhole_l300 G Q  n r0 x2 x3 x4 x5 x6 x7 x8 x9 x10 t300 μ → W p l e { frames := 10, cells := 2326, slots := 13956, locals := 272 } s m args below meth c H locs (1577 + 107 * t300) (9462 + 642 * t300) (MQ below (mQ G (pI Q)) args s 2326 13956 (Ah G)) (F0 m 300 ls []) := by
    intro  n
    induction n with
    | zero =>
      intro r0 x2 x3 x4 x5 x6 x7 x8 x9 x10 t300 μ H locs ls hM hS hl h
      exact False.elim h
    | succ n ih =>
      intro r0 x2 x3 x4 x5 x6 x7 x8 x9 x10 t300 μ H locs ls hM hS hl h
      have h : w_L_isWhole_b300 G Q  (w_L_isWhole_l300 G Q  n) r0 x2 x3 x4 x5 x6 x7 x8 x9 x10 t300 μ := h
      unfold w_L_isWhole_b300 at h
      obtain ⟨ht300, h⟩ := h
      refine lv_iload S.1 S.2.1 dL_isWhole_300 (lv_at hl 10 rfl) ?_
      refine mz_aload_n (x := r0) S.1 S.2.1 dL_isWhole_302 rfl (lv_at hl 1 rfl) ?_
      obtain ⟨a13, e14, h⟩ := h
      refine mz_o0 e14 ?_
      obtain ⟨k15, h⟩ := h
      refine mz_V S hG hM hS cf_9 k15 (As := []) (rest := [.int x10]) (c_X10_nestCount h) yf_X10_nestCount tw_627 tw_628 tw_629 ⟨Nat.le_of_ble_eq_true rfl, Nat.le_of_ble_eq_true rfl⟩ ⟨(by show (1577 + 107 * t300) + 0 ≤ 2326; omega), (by show (9462 + 642 * t300) + 0 ≤ 13956; omega)⟩ rfl hl.1 rfl (Nat.le_of_ble_eq_true rfl) dL_isWhole_303 (fun v9 μ9 H locs hp hM hS => ?_)
      obtain ⟨u16, rfl, e9, h⟩ := hp
      rw [e9] at hM
      refine W.cs (cells' := 1577 + 107 * t300) (slots' := 9462 + 642 * t300) (by first | omega | (dsimp only; omega)) (by first | omega | (dsimp only; omega)) ?_
      refine lv_icmp_ge (tgt := 451) S.1 S.2.1 dL_isWhole_306 (by decide) (fun c17 => ?_) (fun c17 => ?_)
      · have h := h.1 c17
        refine lv_aload_n S.1 S.2.1 dL_isWhole_451 rfl (lv_at hl 0 rfl) ?_
        refine lv_iload_n S.1 S.2.1 dL_isWhole_452 rfl (lv_at hl 2 rfl) ?_
        refine lv_iconst (v := (nI 2)) S.1 S.2.1 dL_isWhole_453 (by decide) ?_
        refine lv_iadd S.1 S.2.1 dL_isWhole_454 ?_
        refine lv_bipush (v := (nI 41)) S.1 S.2.1 dL_isWhole_455 (by decide) ?_
        refine mz_S S hG hM hS (As := [.ref (gX G 5), .int (x2 + (nI 2)), .int (nI 41)]) (rest := []) (c_L_pick h) yf_L_pick tw_398 tw_399 ⟨Nat.le_of_ble_eq_true rfl, Nat.le_of_ble_eq_true rfl⟩ ⟨(by show (1577 + 107 * t300) + 0 ≤ 2326; omega), (by show (9462 + 642 * t300) + 0 ≤ 13956; omega)⟩ rfl hl.1 rfl (Nat.le_of_ble_eq_true rfl) dL_isWhole_457 (fun v9 μ9 H locs hp hM hS => ?_)
        obtain ⟨u18, rfl, e9, h⟩ := hp
        rw [e9] at hM
        refine W.cs (cells' := 1577 + 107 * t300) (slots' := 9462 + 642 * t300) (by first | omega | (dsimp only; omega)) (by first | omega | (dsimp only; omega)) ?_
        refine lv_istore (lv' := [(10, .int u18), (1, .ref (gX G 5)), (0, va_rf r0), (2, .int x2), (3, .int x3), (4, .int x4), (5, .int x5), (6, .int x6), (7, .int x7), (8, .int x8), (9, .int x9)]) S.1 S.2.1 dL_isWhole_460 hl (by decide) rfl (fun ls hl => ?_)
        refine mz_aload_n (x := r0) S.1 S.2.1 dL_isWhole_462 rfl (lv_at hl 2 rfl) ?_
        refine lv_iload S.1 S.2.1 dL_isWhole_463 (lv_at hl 0 rfl) ?_
        refine mz_SH S hG hM hS (As := [va_rf r0, .int u18]) (rest := []) (c_L_napLength hl0 h) yh_L_napLength tw_1228 tw_1229 ⟨Nat.le_of_ble_eq_true rfl, Nat.le_of_ble_eq_true rfl⟩ ⟨(by show (1577 + 107 * t300) + 1 ≤ 2326; omega), (by show (9462 + 642 * t300) + 6 ≤ 13956; omega)⟩ rfl hl.1 rfl (Nat.le_of_ble_eq_true rfl) dL_isWhole_465 (fun v9 μ9 H locs hp hM hS => ?_)
        obtain ⟨u19, rfl, e9, h⟩ := hp
        rw [e9] at hM
        refine W.cs (cells' := 1578 + 107 * t300) (slots' := 9468 + 642 * t300) (by first | omega | (dsimp only; omega)) (by first | omega | (dsimp only; omega)) ?_
        refine mz_aload_n (x := r0) S.1 S.2.1 dL_isWhole_468 rfl (lv_at hl 2 rfl) ?_
        refine lv_iload S.1 S.2.1 dL_isWhole_469 (lv_at hl 0 rfl) ?_
        refine mz_SH S hG hM hS (As := [va_rf r0, .int u18]) (rest := [.long u19]) (c_L_napLengthByDoubling hl0 h) yh_L_napLengthByDoubling tw_1277 tw_1278 ⟨Nat.le_of_ble_eq_true rfl, Nat.le_of_ble_eq_true rfl⟩ ⟨(by show (1578 + 107 * t300) + 1 ≤ 2326; omega), (by show (9468 + 642 * t300) + 6 ≤ 13956; omega)⟩ rfl hl.1 rfl (Nat.le_of_ble_eq_true rfl) dL_isWhole_471 (fun v9 μ9 H locs hp hM hS => ?_)
        obtain ⟨u20, rfl, e9, h⟩ := hp
        rw [e9] at hM
        refine W.cs (cells' := 1579 + 107 * t300) (slots' := 9474 + 642 * t300) (by first | omega | (dsimp only; omega)) (by first | omega | (dsimp only; omega)) ?_
        refine W.lcmp S.1 S.2.1 dL_isWhole_474 ?_
        refine lv_if_ne (tgt := 523) S.1 S.2.1 dL_isWhole_475 (by decide) (fun c21 => ?_) (fun c21 => ?_)
        · have h := h.1 c21
          refine W.widen (k := 2223) (n := 13338) (by omega) (by omega) ?_
          exact hB523  r0 x3 x4 x5 x6 x7 x8 x9 μ H locs ls hM hS (lv_sub hl [1, 2, 4, 5, 6, 7, 8, 9, 10] rfl) h
        · have h := h.2 c21
          refine lv_iload S.1 S.2.1 dL_isWhole_478 (lv_at hl 0 rfl) ?_
          refine lv_if_ne (tgt := 497) S.1 S.2.1 dL_isWhole_480 (by decide) (fun c82 => ?_) (fun c82 => ?_)
          · have h := h.1 c82
            refine mz_aload_n (x := r0) S.1 S.2.1 dL_isWhole_497 rfl (lv_at hl 2 rfl) ?_
            refine lv_iload S.1 S.2.1 dL_isWhole_498 (lv_at hl 0 rfl) ?_
            refine mz_SH S hG hM hS (As := [va_rf r0, .int u18]) (rest := []) (c_L_napLength hl0 h) yh_L_napLength tw_1228 tw_1229 ⟨Nat.le_of_ble_eq_true rfl, Nat.le_of_ble_eq_true rfl⟩ ⟨(by show (1579 + 107 * t300) + 1 ≤ 2326; omega), (by show (9474 + 642 * t300) + 6 ≤ 13956; omega)⟩ rfl hl.1 rfl (Nat.le_of_ble_eq_true rfl) dL_isWhole_500 (fun v9 μ9 H locs hp hM hS => ?_)
            obtain ⟨u83, rfl, e9, h⟩ := hp
            rw [e9] at hM
            refine W.cs (cells' := 1580 + 107 * t300) (slots' := 9480 + 642 * t300) (by first | omega | (dsimp only; omega)) (by first | omega | (dsimp only; omega)) ?_
            refine lv_ldc2 (v := 2) S.1 S.2.1 S.2.2.2.1 (S.2.2.2.2 _ tw_1287) dL_isWhole_503 ?_
            refine mz_aload_n (x := r0) S.1 S.2.1 dL_isWhole_506 rfl (lv_at hl 2 rfl) ?_
            refine lv_iload S.1 S.2.1 dL_isWhole_507 (lv_at hl 0 rfl) ?_
            refine lv_iconst (v := (nI 1)) S.1 S.2.1 dL_isWhole_509 (by decide) ?_
            refine lv_isub S.1 S.2.1 dL_isWhole_510 ?_
            refine mz_SH S hG hM hS (As := [va_rf r0, .int (u18 - (nI 1))]) (rest := [.long (2 : Int64), .long u83]) (c_L_napLength hl0 h) yh_L_napLength tw_1228 tw_1229 ⟨Nat.le_of_ble_eq_true rfl, Nat.le_of_ble_eq_true rfl⟩ ⟨(by show (1580 + 107 * t300) + 1 ≤ 2326; omega), (by show (9480 + 642 * t300) + 6 ≤ 13956; omega)⟩ rfl hl.1 rfl (Nat.le_of_ble_eq_true rfl) dL_isWhole_511 (fun v9 μ9 H locs hp hM hS => ?_)
            obtain ⟨u84, rfl, e9, h⟩ := hp
            rw [e9] at hM
            refine W.cs (cells' := 1581 + 107 * t300) (slots' := 9486 + 642 * t300) (by first | omega | (dsimp only; omega)) (by first | omega | (dsimp only; omega)) ?_
            refine lv_lmul S.1 S.2.1 dL_isWhole_514 ?_
            refine W.lcmp S.1 S.2.1 dL_isWhole_515 ?_
            refine lv_if_ne (tgt := 523) S.1 S.2.1 dL_isWhole_516 (by decide) (fun c85 => ?_) (fun c85 => ?_)
            · have h := h.1 c85
              refine W.widen (k := 2223) (n := 13338) (by omega) (by omega) ?_
              exact hB523  r0 x3 x4 x5 x6 x7 x8 x9 μ H locs ls hM hS (lv_sub hl [1, 2, 4, 5, 6, 7, 8, 9, 10] rfl) h
            · have h := h.2 c85
              refine W.widen (k := 2223) (n := 13338) (by omega) (by omega) ?_
              exact hB519  r0 x3 x4 x5 x6 x7 x8 x9 μ H locs ls hM hS (lv_sub hl [1, 2, 4, 5, 6, 7, 8, 9, 10] rfl) h
          · have h := h.2 c82
            refine mz_aload_n (x := r0) S.1 S.2.1 dL_isWhole_483 rfl (lv_at hl 2 rfl) ?_
            refine lv_iload S.1 S.2.1 dL_isWhole_484 (lv_at hl 0 rfl) ?_
            refine mz_SH S hG hM hS (As := [va_rf r0, .int u18]) (rest := []) (c_L_napLength hl0 h) yh_L_napLength tw_1228 tw_1229 ⟨Nat.le_of_ble_eq_true rfl, Nat.le_of_ble_eq_true rfl⟩ ⟨(by show (1579 + 107 * t300) + 1 ≤ 2326; omega), (by show (9474 + 642 * t300) + 6 ≤ 13956; omega)⟩ rfl hl.1 rfl (Nat.le_of_ble_eq_true rfl) dL_isWhole_486 (fun v9 μ9 H locs hp hM hS => ?_)
            obtain ⟨u86, rfl, e9, h⟩ := hp
            rw [e9] at hM
            refine W.cs (cells' := 1580 + 107 * t300) (slots' := 9480 + 642 * t300) (by first | omega | (dsimp only; omega)) (by first | omega | (dsimp only; omega)) ?_
            refine lv_lconst (v := lN 1) S.1 S.2.1 dL_isWhole_489 rfl ?_
            refine W.lcmp S.1 S.2.1 dL_isWhole_490 ?_
            refine lv_if_ne (tgt := 523) S.1 S.2.1 dL_isWhole_491 (by decide) (fun c87 => ?_) (fun c87 => ?_)
            · have h := h.1 c87
              refine W.widen (k := 2223) (n := 13338) (by omega) (by omega) ?_
              exact hB523  r0 x3 x4 x5 x6 x7 x8 x9 μ H locs ls hM hS (lv_sub hl [1, 2, 4, 5, 6, 7, 8, 9, 10] rfl) h
            · have h := h.2 c87
              refine lv_goto (tgt := 519) S.1 S.2.1 dL_isWhole_494 (by decide) ?_
              refine W.widen (k := 2223) (n := 13338) (by omega) (by omega) ?_
              exact hB519  r0 x3 x4 x5 x6 x7 x8 x9 μ H locs ls hM hS (lv_sub hl [1, 2, 4, 5, 6, 7, 8, 9, 10] rfl) h
      · have h := h.2 c17
        refine lv_iload S.1 S.2.1 dL_isWhole_309 (lv_at hl 9 rfl) ?_
        refine mz_aload_n (x := r0) S.1 S.2.1 dL_isWhole_311 rfl (lv_at hl 1 rfl) ?_
        refine lv_iload S.1 S.2.1 dL_isWhole_312 (lv_at hl 10 rfl) ?_
        refine mz_SH S hG hM hS (As := [va_rf r0, .int x10]) (rest := [.int x9]) (c_L_inboxSize hl0 h) yh_L_inboxSize tw_1149 tw_1150 ⟨Nat.le_of_ble_eq_true rfl, Nat.le_of_ble_eq_true rfl⟩ ⟨(by show (1577 + 107 * t300) + 1 ≤ 2326; omega), (by show (9462 + 642 * t300) + 6 ≤ 13956; omega)⟩ rfl hl.1 rfl (Nat.le_of_ble_eq_true rfl) dL_isWhole_314 (fun v9 μ9 H locs hp hM hS => ?_)
        obtain ⟨u88, rfl, e9, h⟩ := hp
        rw [e9] at hM
        refine W.cs (cells' := 1578 + 107 * t300) (slots' := 9468 + 642 * t300) (by first | omega | (dsimp only; omega)) (by first | omega | (dsimp only; omega)) ?_
        refine lv_iadd S.1 S.2.1 dL_isWhole_317 ?_
        refine lv_istore (lv' := [(9, .int (x9 + u88)), (1, .ref (gX G 5)), (0, va_rf r0), (2, .int x2), (3, .int x3), (4, .int x4), (5, .int x5), (6, .int x6), (7, .int x7), (8, .int x8), (10, .int x10)]) S.1 S.2.1 dL_isWhole_318 hl (by decide) rfl (fun ls hl => ?_)
        refine lv_iconst (v := (nI 0)) S.1 S.2.1 dL_isWhole_320 (by decide) ?_
        refine lv_istore (lv' := [(11, .int (nI 0)), (9, .int (x9 + u88)), (1, .ref (gX G 5)), (0, va_rf r0), (2, .int x2), (3, .int x3), (4, .int x4), (5, .int x5), (6, .int x6), (7, .int x7), (8, .int x8), (10, .int x10)]) S.1 S.2.1 dL_isWhole_321 hl (by decide) rfl (fun ls hl => ?_)
        refine lv_iconst (v := (nI 0)) S.1 S.2.1 dL_isWhole_323 (by decide) ?_
        refine lv_istore (lv' := [(12, .int (nI 0)), (11, .int (nI 0)), (9, .int (x9 + u88)), (1, .ref (gX G 5)), (0, va_rf r0), (2, .int x2), (3, .int x3), (4, .int x4), (5, .int x5), (6, .int x6), (7, .int x7), (8, .int x8), (10, .int x10)]) S.1 S.2.1 dL_isWhole_324 hl (by decide) rfl (fun ls hl => ?_)
        obtain ⟨n9, h⟩ := h
        refine W.widen (k := 1578 + 107 * t300 + 1 * 0) (n := 9468 + 642 * t300 + 6 * 0) (by omega) (by omega) ?_
        exact hB326 (w_L_isWhole_l300 G Q  n) ih n9 r0 x2 x3 x4 x5 x6 x7 x8 (x9 + u88) x10 (nI 0) (nI 0) t300 0 μ H locs ls hM hS (lv_sub hl [3, 4, 5, 6, 7, 8, 9, 10, 11, 2, 12, 1, 0] rfl) h
  have hB286 : ∀ (μ : mmT) (H : Heap) (locs : List Loc) (ls : Array Slot), Mm G μ H → va_S (Ah G) s.heap H locs → lv_has ls 15 [(1, .ref (gX G 5))] → w_L_isWhole_b286 G Q  μ → W p l e { frames := 10, cells := 2326, slots := 13956, locals := 272 } s m args below meth c H locs (1583) (9498) (MQ below (mQ G (pI Q)) args s 2326 13956 (Ah G)) (F0 m 286 ls []) := by
    intro  μ H locs ls hM hS hl h
    unfold w_L_isWhole_b286 at h
    refine lv_iconst (v := (nI 0)) S.1 S.2.1 dL_isWhole_286 (by decide) ?_
    exact mz_iret S hr hlk hM hS rfl (Nat.le_of_ble_eq_true rfl) (Nat.le_of_ble_eq_true rfl) dL_isWhole_287 ⟨_, rfl, h⟩
  have hB288 : ∀ (K222 : Option Nat → Int32 → Int32 → Int32 → Int32 → Int32 → Int32 → Int32 → Int32 → Nat → mmT → Prop) (kK222 : ∀ (r0 : Option Nat) (x2 : Int32) (x3 : Int32) (x4 : Int32) (x5 : Int32) (x6 : Int32) (x7 : Int32) (x8 : Int32) (x9 : Int32) (t222 : Nat) (μ : mmT) (H : Heap) (locs : List Loc) (ls : Array Slot), Mm G μ H → va_S (Ah G) s.heap H locs → lv_has ls 15 [(1, .ref (gX G 5)), (0, va_rf r0), (2, .int x2), (3, .int x3), (4, .int x4), (5, .int x5), (6, .int x6), (7, .int x7), (8, .int x8), (9, .int x9)] → K222 r0 x2 x3 x4 x5 x6 x7 x8 x9 t222 μ → W p l e { frames := 10, cells := 2326, slots := 13956, locals := 272 } s m args below meth c H locs (1464 + 7 * t222) (8784 + 42 * t222) (MQ below (mQ G (pI Q)) args s 2326 13956 (Ah G)) (F0 m 222 ls [])) (r0 : Option Nat) (x2 : Int32) (x3 : Int32) (x4 : Int32) (x5 : Int32) (x6 : Int32) (x7 : Int32) (x8 : Int32) (x9 : Int32) (t222 : Nat) (μ : mmT) (H : Heap) (locs : List Loc) (ls : Array Slot), Mm G μ H → va_S (Ah G) s.heap H locs → lv_has ls 15 [(1, .ref (gX G 5)), (0, va_rf r0), (2, .int x2), (3, .int x3), (4, .int x4), (5, .int x5), (6, .int x6), (7, .int x7), (8, .int x8), (9, .int x9)] → w_L_isWhole_b288 G Q K222 r0 x2 x3 x4 x5 x6 x7 x8 x9 t222 μ → W p l e { frames := 10, cells := 2326, slots := 13956, locals := 272 } s m args below meth c H locs (1471 + 7 * t222) (8826 + 42 * t222) (MQ below (mQ G (pI Q)) args s 2326 13956 (Ah G)) (F0 m 288 ls []) := by
    intro K222 kK222 r0 x2 x3 x4 x5 x6 x7 x8 x9 t222 μ H locs ls hM hS hl h
    unfold w_L_isWhole_b288 at h
    obtain ⟨ht222, h⟩ := h
    refine lv_iinc (v := (x9 + nI 1)) (lv' := [(9, .int (x9 + nI 1)), (1, .ref (gX G 5)), (0, va_rf r0), (2, .int x2), (3, .int x3), (4, .int x4), (5, .int x5), (6, .int x6), (7, .int x7), (8, .int x8)]) S.1 S.2.1 dL_isWhole_288 hl (k := 9) rfl rfl (by decide) rfl (fun ls hl => ?_)
    refine lv_goto (tgt := 222) S.1 S.2.1 dL_isWhole_291 (by decide) ?_
    refine W.widen (k := 1464 + 7 * (t222 + 1)) (n := 8784 + 42 * (t222 + 1)) (by omega) (by omega) ?_
    exact kK222 r0 x2 x3 x4 x5 x6 x7 x8 (x9 + nI 1) (t222 + 1) μ H locs ls hM hS (lv_sub hl [1, 2, 3, 4, 5, 6, 7, 8, 9, 0] rfl) h
  have hB222 : ∀ (n : Nat) (r0 : Option Nat) (x2 : Int32) (x3 : Int32) (x4 : Int32) (x5 : Int32) (x6 : Int32) (x7 : Int32) (x8 : Int32) (x9 : Int32) (t222 : Nat) (μ : mmT) (H : Heap) (locs : List Loc) (ls : Array Slot), Mm G μ H → va_S (Ah G) s.heap H locs → lv_has ls 15 [(1, .ref (gX G 5)), (0, va_rf r0), (2, .int x2), (3, .int x3), (4, .int x4), (5, .int x5), (6, .int x6), (7, .int x7), (8, .int x8), (9, .int x9)] → w_L_isWhole_l222 G Q  n r0 x2 x3 x4 x5 x6 x7 x8 x9 t222 μ → W p l e { frames := 10, cells := 2326, slots := 13956, locals := 272 } s m args below meth c H locs (1464 + 7 * t222) (8784 + 42 * t222) (MQ below (mQ G (pI Q)) args s 2326 13956 (Ah G)) (F0 m 222 ls []) := by
    intro  n
    induction n with
    | zero =>
      intro r0 x2 x3 x4 x5 x6 x7 x8 x9 t222 μ H locs ls hM hS hl h
      exact False.elim h
    | succ n ih =>
      intro r0 x2 x3 x4 x5 x6 x7 x8 x9 t222 μ H locs ls hM hS hl h
      have h : w_L_isWhole_b222 G Q  (w_L_isWhole_l222 G Q  n) r0 x2 x3 x4 x5 x6 x7 x8 x9 t222 μ := h
      unfold w_L_isWhole_b222 at h
      obtain ⟨ht222, h⟩ := h
      refine mz_aload_n (x := r0) S.1 S.2.1 dL_isWhole_222 rfl (lv_at hl 1 rfl) ?_
      refine lv_iload S.1 S.2.1 dL_isWhole_223 (lv_at hl 9 rfl) ?_
      refine mz_SH S hG hM hS (As := [va_rf r0, .int x9]) (rest := []) (c_L_waitingMessage hl0 h) yh_L_waitingMessage tw_1219 tw_1220 ⟨Nat.le_of_ble_eq_true rfl, Nat.le_of_ble_eq_true rfl⟩ ⟨(by show (1464 + 7 * t222) + 1 ≤ 2326; omega), (by show (8784 + 42 * t222) + 6 ≤ 13956; omega)⟩ rfl hl.1 rfl (Nat.le_of_ble_eq_true rfl) dL_isWhole_225 (fun v9 μ9 H locs hp hM hS => ?_)
      obtain ⟨u11, rfl, e9, h⟩ := hp
      rw [e9] at hM
      refine W.cs (cells' := 1465 + 7 * t222) (slots' := 8790 + 42 * t222) (by first | omega | (dsimp only; omega)) (by first | omega | (dsimp only; omega)) ?_
      refine lv_if_lt (tgt := 294) S.1 S.2.1 dL_isWhole_228 (by decide) (fun c12 => ?_) (fun c12 => ?_)
      · have h := h.1 c12
        refine lv_iconst (v := (nI 0)) S.1 S.2.1 dL_isWhole_294 (by decide) ?_
        refine lv_istore (lv' := [(9, .int (nI 0)), (1, .ref (gX G 5)), (0, va_rf r0), (2, .int x2), (3, .int x3), (4, .int x4), (5, .int x5), (6, .int x6), (7, .int x7), (8, .int x8)]) S.1 S.2.1 dL_isWhole_295 hl (by decide) rfl (fun ls hl => ?_)
        refine lv_iconst (v := (nI 0)) S.1 S.2.1 dL_isWhole_297 (by decide) ?_
        refine lv_istore (lv' := [(10, .int (nI 0)), (9, .int (nI 0)), (1, .ref (gX G 5)), (0, va_rf r0), (2, .int x2), (3, .int x3), (4, .int x4), (5, .int x5), (6, .int x6), (7, .int x7), (8, .int x8)]) S.1 S.2.1 dL_isWhole_298 hl (by decide) rfl (fun ls hl => ?_)
        obtain ⟨n9, h⟩ := h
        refine W.widen (k := 1577 + 107 * 0) (n := 9462 + 642 * 0) (by omega) (by omega) ?_
        exact hB300  n9 r0 x2 x3 x4 x5 x6 x7 x8 (nI 0) (nI 0) 0 μ H locs ls hM hS (lv_sub hl [2, 3, 4, 5, 6, 7, 8, 9, 10, 1, 0] rfl) h
      · have h := h.2 c12
        refine mz_aload_n (x := r0) S.1 S.2.1 dL_isWhole_231 rfl (lv_at hl 1 rfl) ?_
        refine lv_iload S.1 S.2.1 dL_isWhole_232 (lv_at hl 9 rfl) ?_
        refine lv_iconst (v := (nI 1)) S.1 S.2.1 dL_isWhole_234 (by decide) ?_
        refine lv_isub S.1 S.2.1 dL_isWhole_235 ?_
        refine mz_SH S hG hM hS (As := [va_rf r0, .int (x9 - (nI 1))]) (rest := []) (c_L_waitingMessage hl0 h) yh_L_waitingMessage tw_1219 tw_1220 ⟨Nat.le_of_ble_eq_true rfl, Nat.le_of_ble_eq_true rfl⟩ ⟨(by show (1465 + 7 * t222) + 1 ≤ 2326; omega), (by show (8790 + 42 * t222) + 6 ≤ 13956; omega)⟩ rfl hl.1 rfl (Nat.le_of_ble_eq_true rfl) dL_isWhole_236 (fun v9 μ9 H locs hp hM hS => ?_)
        obtain ⟨u105, rfl, e9, h⟩ := hp
        rw [e9] at hM
        refine W.cs (cells' := 1466 + 7 * t222) (slots' := 8796 + 42 * t222) (by first | omega | (dsimp only; omega)) (by first | omega | (dsimp only; omega)) ?_
        refine lv_istore (lv' := [(10, .int u105), (1, .ref (gX G 5)), (0, va_rf r0), (2, .int x2), (3, .int x3), (4, .int x4), (5, .int x5), (6, .int x6), (7, .int x7), (8, .int x8), (9, .int x9)]) S.1 S.2.1 dL_isWhole_239 hl (by decide) rfl (fun ls hl => ?_)
        refine mz_aload_n (x := r0) S.1 S.2.1 dL_isWhole_241 rfl (lv_at hl 2 rfl) ?_
        refine lv_iload S.1 S.2.1 dL_isWhole_242 (lv_at hl 10 rfl) ?_
        refine mz_SH S hG hM hS (As := [va_rf r0, .int x9]) (rest := []) (c_L_waitingMessage hl0 h) yh_L_waitingMessage tw_1219 tw_1220 ⟨Nat.le_of_ble_eq_true rfl, Nat.le_of_ble_eq_true rfl⟩ ⟨(by show (1466 + 7 * t222) + 1 ≤ 2326; omega), (by show (8796 + 42 * t222) + 6 ≤ 13956; omega)⟩ rfl hl.1 rfl (Nat.le_of_ble_eq_true rfl) dL_isWhole_244 (fun v9 μ9 H locs hp hM hS => ?_)
        obtain ⟨u106, rfl, e9, h⟩ := hp
        rw [e9] at hM
        refine W.cs (cells' := 1467 + 7 * t222) (slots' := 8802 + 42 * t222) (by first | omega | (dsimp only; omega)) (by first | omega | (dsimp only; omega)) ?_
        refine lv_istore (lv' := [(11, .int u106), (10, .int u105), (1, .ref (gX G 5)), (0, va_rf r0), (2, .int x2), (3, .int x3), (4, .int x4), (5, .int x5), (6, .int x6), (7, .int x7), (8, .int x8), (9, .int x9)]) S.1 S.2.1 dL_isWhole_247 hl (by decide) rfl (fun ls hl => ?_)
        refine mz_aload_n (x := r0) S.1 S.2.1 dL_isWhole_249 rfl (lv_at hl 3 rfl) ?_
        refine lv_iload S.1 S.2.1 dL_isWhole_250 (lv_at hl 1 rfl) ?_
        refine mz_SH S hG hM hS (As := [va_rf r0, .int u105]) (rest := []) (c_L_attempts hl0 h) yh_L_attempts tw_1205 tw_1206 ⟨Nat.le_of_ble_eq_true rfl, Nat.le_of_ble_eq_true rfl⟩ ⟨(by show (1467 + 7 * t222) + 1 ≤ 2326; omega), (by show (8802 + 42 * t222) + 6 ≤ 13956; omega)⟩ rfl hl.1 rfl (Nat.le_of_ble_eq_true rfl) dL_isWhole_252 (fun v9 μ9 H locs hp hM hS => ?_)
        obtain ⟨u107, rfl, e9, h⟩ := hp
        rw [e9] at hM
        refine W.cs (cells' := 1468 + 7 * t222) (slots' := 8808 + 42 * t222) (by first | omega | (dsimp only; omega)) (by first | omega | (dsimp only; omega)) ?_
        refine mz_aload_n (x := r0) S.1 S.2.1 dL_isWhole_255 rfl (lv_at hl 3 rfl) ?_
        refine lv_iload S.1 S.2.1 dL_isWhole_256 (lv_at hl 0 rfl) ?_
        refine mz_SH S hG hM hS (As := [va_rf r0, .int u106]) (rest := [.int u107]) (c_L_attempts hl0 h) yh_L_attempts tw_1205 tw_1206 ⟨Nat.le_of_ble_eq_true rfl, Nat.le_of_ble_eq_true rfl⟩ ⟨(by show (1468 + 7 * t222) + 1 ≤ 2326; omega), (by show (8808 + 42 * t222) + 6 ≤ 13956; omega)⟩ rfl hl.1 rfl (Nat.le_of_ble_eq_true rfl) dL_isWhole_258 (fun v9 μ9 H locs hp hM hS => ?_)
        obtain ⟨u108, rfl, e9, h⟩ := hp
        rw [e9] at hM
        refine W.cs (cells' := 1469 + 7 * t222) (slots' := 8814 + 42 * t222) (by first | omega | (dsimp only; omega)) (by first | omega | (dsimp only; omega)) ?_
        refine lv_icmp_gt (tgt := 286) S.1 S.2.1 dL_isWhole_261 (by decide) (fun c109 => ?_) (fun c109 => ?_)
        · have h := h.1 c109
          refine W.widen (k := 1583) (n := 9498) (by omega) (by omega) ?_
          exact hB286  μ H locs ls hM hS (lv_sub hl [2] rfl) h
        · have h := h.2 c109
          refine mz_aload_n (x := r0) S.1 S.2.1 dL_isWhole_264 rfl (lv_at hl 3 rfl) ?_
          refine lv_iload S.1 S.2.1 dL_isWhole_265 (lv_at hl 1 rfl) ?_
          refine mz_SH S hG hM hS (As := [va_rf r0, .int u105]) (rest := []) (c_L_attempts hl0 h) yh_L_attempts tw_1205 tw_1206 ⟨Nat.le_of_ble_eq_true rfl, Nat.le_of_ble_eq_true rfl⟩ ⟨(by show (1469 + 7 * t222) + 1 ≤ 2326; omega), (by show (8814 + 42 * t222) + 6 ≤ 13956; omega)⟩ rfl hl.1 rfl (Nat.le_of_ble_eq_true rfl) dL_isWhole_267 (fun v9 μ9 H locs hp hM hS => ?_)
          obtain ⟨u110, rfl, e9, h⟩ := hp
          rw [e9] at hM
          refine W.cs (cells' := 1470 + 7 * t222) (slots' := 8820 + 42 * t222) (by first | omega | (dsimp only; omega)) (by first | omega | (dsimp only; omega)) ?_
          refine mz_aload_n (x := r0) S.1 S.2.1 dL_isWhole_270 rfl (lv_at hl 3 rfl) ?_
          refine lv_iload S.1 S.2.1 dL_isWhole_271 (lv_at hl 0 rfl) ?_
          refine mz_SH S hG hM hS (As := [va_rf r0, .int u106]) (rest := [.int u110]) (c_L_attempts hl0 h) yh_L_attempts tw_1205 tw_1206 ⟨Nat.le_of_ble_eq_true rfl, Nat.le_of_ble_eq_true rfl⟩ ⟨(by show (1470 + 7 * t222) + 1 ≤ 2326; omega), (by show (8820 + 42 * t222) + 6 ≤ 13956; omega)⟩ rfl hl.1 rfl (Nat.le_of_ble_eq_true rfl) dL_isWhole_273 (fun v9 μ9 H locs hp hM hS => ?_)
          obtain ⟨u111, rfl, e9, h⟩ := hp
          rw [e9] at hM
          refine W.cs (cells' := 1471 + 7 * t222) (slots' := 8826 + 42 * t222) (by first | omega | (dsimp only; omega)) (by first | omega | (dsimp only; omega)) ?_
          refine lv_icmp_ne (tgt := 288) S.1 S.2.1 dL_isWhole_276 (by decide) (fun c112 => ?_) (fun c112 => ?_)
          · have h := h.1 c112
            refine W.widen (k := 1471 + 7 * t222) (n := 8826 + 42 * t222) (by omega) (by omega) ?_
            exact hB288 (w_L_isWhole_l222 G Q  n) ih r0 x2 x3 x4 x5 x6 x7 x8 x9 t222 μ H locs ls hM hS (lv_sub hl [2, 3, 4, 5, 6, 7, 8, 9, 10, 11] rfl) h
          · have h := h.2 c112
            refine lv_iload S.1 S.2.1 dL_isWhole_279 (lv_at hl 1 rfl) ?_
            refine lv_iload S.1 S.2.1 dL_isWhole_281 (lv_at hl 0 rfl) ?_
            refine lv_icmp_le (tgt := 288) S.1 S.2.1 dL_isWhole_283 (by decide) (fun c113 => ?_) (fun c113 => ?_)
            · have h := h.1 c113
              refine W.widen (k := 1471 + 7 * t222) (n := 8826 + 42 * t222) (by omega) (by omega) ?_
              exact hB288 (w_L_isWhole_l222 G Q  n) ih r0 x2 x3 x4 x5 x6 x7 x8 x9 t222 μ H locs ls hM hS (lv_sub hl [2, 3, 4, 5, 6, 7, 8, 9, 10, 11] rfl) h
            · have h := h.2 c113
              refine W.widen (k := 1583) (n := 9498) (by omega) (by omega) ?_
              exact hB286  μ H locs ls hM hS (lv_sub hl [2] rfl) h
  have hB211 : ∀ (μ : mmT) (H : Heap) (locs : List Loc) (ls : Array Slot), Mm G μ H → va_S (Ah G) s.heap H locs → lv_has ls 15 [(1, .ref (gX G 5))] → w_L_isWhole_b211 G Q  μ → W p l e { frames := 10, cells := 2326, slots := 13956, locals := 272 } s m args below meth c H locs (1470) (8820) (MQ below (mQ G (pI Q)) args s 2326 13956 (Ah G)) (F0 m 211 ls []) := by
    intro  μ H locs ls hM hS hl h
    unfold w_L_isWhole_b211 at h
    refine lv_iconst (v := (nI 0)) S.1 S.2.1 dL_isWhole_211 (by decide) ?_
    exact mz_iret S hr hlk hM hS rfl (Nat.le_of_ble_eq_true rfl) (Nat.le_of_ble_eq_true rfl) dL_isWhole_212 ⟨_, rfl, h⟩
  have hB208 : ∀ (K127 : Option Nat → Int32 → Int32 → Int32 → Int32 → Int32 → Int32 → Int32 → Int32 → Nat → mmT → Prop) (kK127 : ∀ (r0 : Option Nat) (x2 : Int32) (x3 : Int32) (x4 : Int32) (x5 : Int32) (x6 : Int32) (x7 : Int32) (x8 : Int32) (x9 : Int32) (t127 : Nat) (μ : mmT) (H : Heap) (locs : List Loc) (ls : Array Slot), Mm G μ H → va_S (Ah G) s.heap H locs → lv_has ls 15 [(1, .ref (gX G 5)), (0, va_rf r0), (2, .int x2), (3, .int x3), (4, .int x4), (5, .int x5), (6, .int x6), (7, .int x7), (8, .int x8), (9, .int x9)] → K127 r0 x2 x3 x4 x5 x6 x7 x8 x9 t127 μ → W p l e { frames := 10, cells := 2326, slots := 13956, locals := 272 } s m args below meth c H locs (1440 + 6 * t127) (8640 + 36 * t127) (MQ below (mQ G (pI Q)) args s 2326 13956 (Ah G)) (F0 m 127 ls [])) (r0 : Option Nat) (x2 : Int32) (x3 : Int32) (x4 : Int32) (x5 : Int32) (x6 : Int32) (x7 : Int32) (x8 : Int32) (x9 : Int32) (s0 : Int32) (s1 : Int32) (t127 : Nat) (μ : mmT) (H : Heap) (locs : List Loc) (ls : Array Slot), Mm G μ H → va_S (Ah G) s.heap H locs → lv_has ls 15 [(1, .ref (gX G 5)), (0, va_rf r0), (2, .int x2), (3, .int x3), (4, .int x4), (5, .int x5), (6, .int x6), (7, .int x7), (8, .int x8), (9, .int x9)] → w_L_isWhole_b208 G Q K127 r0 x2 x3 x4 x5 x6 x7 x8 x9 s0 s1 t127 μ → W p l e { frames := 10, cells := 2326, slots := 13956, locals := 272 } s m args below meth c H locs (1446 + 6 * t127) (8676 + 36 * t127) (MQ below (mQ G (pI Q)) args s 2326 13956 (Ah G)) (F0 m 208 ls [.int s1, .int s0]) := by
    intro K127 kK127 r0 x2 x3 x4 x5 x6 x7 x8 x9 s0 s1 t127 μ H locs ls hM hS hl h
    unfold w_L_isWhole_b208 at h
    obtain ⟨ht127, h⟩ := h
    refine lv_icmp_eq (tgt := 213) S.1 S.2.1 dL_isWhole_208 (by decide) (fun c124 => ?_) (fun c124 => ?_)
    · have h := h.1 c124
      refine lv_iinc (v := (x9 + nI 1)) (lv' := [(9, .int (x9 + nI 1)), (1, .ref (gX G 5)), (0, va_rf r0), (2, .int x2), (3, .int x3), (4, .int x4), (5, .int x5), (6, .int x6), (7, .int x7), (8, .int x8)]) S.1 S.2.1 dL_isWhole_213 hl (k := 9) rfl rfl (by decide) rfl (fun ls hl => ?_)
      refine lv_goto (tgt := 127) S.1 S.2.1 dL_isWhole_216 (by decide) ?_
      refine W.widen (k := 1440 + 6 * (t127 + 1)) (n := 8640 + 36 * (t127 + 1)) (by omega) (by omega) ?_
      exact kK127 r0 x2 x3 x4 x5 x6 x7 x8 (x9 + nI 1) (t127 + 1) μ H locs ls hM hS (lv_sub hl [1, 2, 3, 4, 5, 6, 7, 8, 9, 0] rfl) h
    · have h := h.2 c124
      refine W.widen (k := 1470) (n := 8820) (by omega) (by omega) ?_
      exact hB211  μ H locs ls hM hS (lv_sub hl [0] rfl) h
  have hB193 : ∀ (K127 : Option Nat → Int32 → Int32 → Int32 → Int32 → Int32 → Int32 → Int32 → Int32 → Nat → mmT → Prop) (kK127 : ∀ (r0 : Option Nat) (x2 : Int32) (x3 : Int32) (x4 : Int32) (x5 : Int32) (x6 : Int32) (x7 : Int32) (x8 : Int32) (x9 : Int32) (t127 : Nat) (μ : mmT) (H : Heap) (locs : List Loc) (ls : Array Slot), Mm G μ H → va_S (Ah G) s.heap H locs → lv_has ls 15 [(1, .ref (gX G 5)), (0, va_rf r0), (2, .int x2), (3, .int x3), (4, .int x4), (5, .int x5), (6, .int x6), (7, .int x7), (8, .int x8), (9, .int x9)] → K127 r0 x2 x3 x4 x5 x6 x7 x8 x9 t127 μ → W p l e { frames := 10, cells := 2326, slots := 13956, locals := 272 } s m args below meth c H locs (1440 + 6 * t127) (8640 + 36 * t127) (MQ below (mQ G (pI Q)) args s 2326 13956 (Ah G)) (F0 m 127 ls [])) (r0 : Option Nat) (x2 : Int32) (x3 : Int32) (x4 : Int32) (x5 : Int32) (x6 : Int32) (x7 : Int32) (x8 : Int32) (x9 : Int32) (s0 : Int32) (t127 : Nat) (μ : mmT) (H : Heap) (locs : List Loc) (ls : Array Slot), Mm G μ H → va_S (Ah G) s.heap H locs → lv_has ls 15 [(1, .ref (gX G 5)), (0, va_rf r0), (2, .int x2), (3, .int x3), (4, .int x4), (5, .int x5), (6, .int x6), (7, .int x7), (8, .int x8), (9, .int x9)] → w_L_isWhole_b193 G Q K127 r0 x2 x3 x4 x5 x6 x7 x8 x9 s0 t127 μ → W p l e { frames := 10, cells := 2326, slots := 13956, locals := 272 } s m args below meth c H locs (1445 + 6 * t127) (8670 + 36 * t127) (MQ below (mQ G (pI Q)) args s 2326 13956 (Ah G)) (F0 m 193 ls [.int s0]) := by
    intro K127 kK127 r0 x2 x3 x4 x5 x6 x7 x8 x9 s0 t127 μ H locs ls hM hS hl h
    unfold w_L_isWhole_b193 at h
    obtain ⟨ht127, h⟩ := h
    refine mz_aload_n (x := r0) S.1 S.2.1 dL_isWhole_193 rfl (lv_at hl 1 rfl) ?_
    refine lv_iload S.1 S.2.1 dL_isWhole_194 (lv_at hl 9 rfl) ?_
    refine mz_SH S hG hM hS (As := [va_rf r0, .int x9]) (rest := [.int s0]) (c_L_isFlying hl0 h) yh_L_isFlying tw_1247 tw_1248 ⟨Nat.le_of_ble_eq_true rfl, Nat.le_of_ble_eq_true rfl⟩ ⟨(by show (1445 + 6 * t127) + 1 ≤ 2326; omega), (by show (8670 + 36 * t127) + 6 ≤ 13956; omega)⟩ rfl hl.1 rfl (Nat.le_of_ble_eq_true rfl) dL_isWhole_196 (fun v9 μ9 H locs hp hM hS => ?_)
    obtain ⟨u122, rfl, e9, h⟩ := hp
    rw [e9] at hM
    refine W.cs (cells' := 1446 + 6 * t127) (slots' := 8676 + 36 * t127) (by first | omega | (dsimp only; omega)) (by first | omega | (dsimp only; omega)) ?_
    refine lv_iconst (v := (nI 1)) S.1 S.2.1 dL_isWhole_199 (by decide) ?_
    refine lv_icmp_ne (tgt := 207) S.1 S.2.1 dL_isWhole_200 (by decide) (fun c123 => ?_) (fun c123 => ?_)
    · have h := h.1 c123
      refine lv_iconst (v := (nI 0)) S.1 S.2.1 dL_isWhole_207 (by decide) ?_
      refine W.widen (k := 1446 + 6 * t127) (n := 8676 + 36 * t127) (by omega) (by omega) ?_
      exact hB208 K127 kK127 r0 x2 x3 x4 x5 x6 x7 x8 x9 s0 (nI 0) t127 μ H locs ls hM hS (lv_sub hl [0, 1, 2, 3, 4, 5, 6, 7, 8, 9] rfl) h
    · have h := h.2 c123
      refine lv_iconst (v := (nI 1)) S.1 S.2.1 dL_isWhole_203 (by decide) ?_
      refine lv_goto (tgt := 208) S.1 S.2.1 dL_isWhole_204 (by decide) ?_
      refine W.widen (k := 1446 + 6 * t127) (n := 8676 + 36 * t127) (by omega) (by omega) ?_
      exact hB208 K127 kK127 r0 x2 x3 x4 x5 x6 x7 x8 x9 s0 (nI 1) t127 μ H locs ls hM hS (lv_sub hl [0, 1, 2, 3, 4, 5, 6, 7, 8, 9] rfl) h
  have hB176 : ∀ (K127 : Option Nat → Int32 → Int32 → Int32 → Int32 → Int32 → Int32 → Int32 → Int32 → Nat → mmT → Prop) (kK127 : ∀ (r0 : Option Nat) (x2 : Int32) (x3 : Int32) (x4 : Int32) (x5 : Int32) (x6 : Int32) (x7 : Int32) (x8 : Int32) (x9 : Int32) (t127 : Nat) (μ : mmT) (H : Heap) (locs : List Loc) (ls : Array Slot), Mm G μ H → va_S (Ah G) s.heap H locs → lv_has ls 15 [(1, .ref (gX G 5)), (0, va_rf r0), (2, .int x2), (3, .int x3), (4, .int x4), (5, .int x5), (6, .int x6), (7, .int x7), (8, .int x8), (9, .int x9)] → K127 r0 x2 x3 x4 x5 x6 x7 x8 x9 t127 μ → W p l e { frames := 10, cells := 2326, slots := 13956, locals := 272 } s m args below meth c H locs (1440 + 6 * t127) (8640 + 36 * t127) (MQ below (mQ G (pI Q)) args s 2326 13956 (Ah G)) (F0 m 127 ls [])) (r0 : Option Nat) (x2 : Int32) (x3 : Int32) (x4 : Int32) (x5 : Int32) (x6 : Int32) (x7 : Int32) (x8 : Int32) (x9 : Int32) (s0 : Int32) (s1 : Int32) (t127 : Nat) (μ : mmT) (H : Heap) (locs : List Loc) (ls : Array Slot), Mm G μ H → va_S (Ah G) s.heap H locs → lv_has ls 15 [(1, .ref (gX G 5)), (0, va_rf r0), (2, .int x2), (3, .int x3), (4, .int x4), (5, .int x5), (6, .int x6), (7, .int x7), (8, .int x8), (9, .int x9)] → w_L_isWhole_b176 G Q K127 r0 x2 x3 x4 x5 x6 x7 x8 x9 s0 s1 t127 μ → W p l e { frames := 10, cells := 2326, slots := 13956, locals := 272 } s m args below meth c H locs (1443 + 6 * t127) (8658 + 36 * t127) (MQ below (mQ G (pI Q)) args s 2326 13956 (Ah G)) (F0 m 176 ls [.int s1, .int s0]) := by
    intro K127 kK127 r0 x2 x3 x4 x5 x6 x7 x8 x9 s0 s1 t127 μ H locs ls hM hS hl h
    unfold w_L_isWhole_b176 at h
    obtain ⟨ht127, h⟩ := h
    refine lv_icmp_ne (tgt := 211) S.1 S.2.1 dL_isWhole_176 (by decide) (fun c119 => ?_) (fun c119 => ?_)
    · have h := h.1 c119
      refine W.widen (k := 1470) (n := 8820) (by omega) (by omega) ?_
      exact hB211  μ H locs ls hM hS (lv_sub hl [0] rfl) h
    · have h := h.2 c119
      refine mz_aload_n (x := r0) S.1 S.2.1 dL_isWhole_179 rfl (lv_at hl 1 rfl) ?_
      refine lv_iload S.1 S.2.1 dL_isWhole_180 (lv_at hl 9 rfl) ?_
      refine mz_SH S hG hM hS (As := [va_rf r0, .int x9]) (rest := []) (c_L_carriedMessage hl0 h) yh_L_carriedMessage tw_1167 tw_1168 ⟨Nat.le_of_ble_eq_true rfl, Nat.le_of_ble_eq_true rfl⟩ ⟨(by show (1443 + 6 * t127) + 2 ≤ 2326; omega), (by show (8658 + 36 * t127) + 12 ≤ 13956; omega)⟩ rfl hl.1 rfl (Nat.le_of_ble_eq_true rfl) dL_isWhole_182 (fun v9 μ9 H locs hp hM hS => ?_)
      obtain ⟨u120, rfl, e9, h⟩ := hp
      rw [e9] at hM
      refine W.cs (cells' := 1445 + 6 * t127) (slots' := 8670 + 36 * t127) (by first | omega | (dsimp only; omega)) (by first | omega | (dsimp only; omega)) ?_
      refine lv_if_lt (tgt := 192) S.1 S.2.1 dL_isWhole_185 (by decide) (fun c121 => ?_) (fun c121 => ?_)
      · have h := h.1 c121
        refine lv_iconst (v := (nI 0)) S.1 S.2.1 dL_isWhole_192 (by decide) ?_
        refine W.widen (k := 1445 + 6 * t127) (n := 8670 + 36 * t127) (by omega) (by omega) ?_
        exact hB193 K127 kK127 r0 x2 x3 x4 x5 x6 x7 x8 x9 (nI 0) t127 μ H locs ls hM hS (lv_sub hl [0, 1, 2, 3, 4, 5, 6, 7, 8, 9] rfl) h
      · have h := h.2 c121
        refine lv_iconst (v := (nI 1)) S.1 S.2.1 dL_isWhole_188 (by decide) ?_
        refine lv_goto (tgt := 193) S.1 S.2.1 dL_isWhole_189 (by decide) ?_
        refine W.widen (k := 1445 + 6 * t127) (n := 8670 + 36 * t127) (by omega) (by omega) ?_
        exact hB193 K127 kK127 r0 x2 x3 x4 x5 x6 x7 x8 x9 (nI 1) t127 μ H locs ls hM hS (lv_sub hl [0, 1, 2, 3, 4, 5, 6, 7, 8, 9] rfl) h
  have hB161 : ∀ (K127 : Option Nat → Int32 → Int32 → Int32 → Int32 → Int32 → Int32 → Int32 → Int32 → Nat → mmT → Prop) (kK127 : ∀ (r0 : Option Nat) (x2 : Int32) (x3 : Int32) (x4 : Int32) (x5 : Int32) (x6 : Int32) (x7 : Int32) (x8 : Int32) (x9 : Int32) (t127 : Nat) (μ : mmT) (H : Heap) (locs : List Loc) (ls : Array Slot), Mm G μ H → va_S (Ah G) s.heap H locs → lv_has ls 15 [(1, .ref (gX G 5)), (0, va_rf r0), (2, .int x2), (3, .int x3), (4, .int x4), (5, .int x5), (6, .int x6), (7, .int x7), (8, .int x8), (9, .int x9)] → K127 r0 x2 x3 x4 x5 x6 x7 x8 x9 t127 μ → W p l e { frames := 10, cells := 2326, slots := 13956, locals := 272 } s m args below meth c H locs (1440 + 6 * t127) (8640 + 36 * t127) (MQ below (mQ G (pI Q)) args s 2326 13956 (Ah G)) (F0 m 127 ls [])) (r0 : Option Nat) (x2 : Int32) (x3 : Int32) (x4 : Int32) (x5 : Int32) (x6 : Int32) (x7 : Int32) (x8 : Int32) (x9 : Int32) (s0 : Int32) (t127 : Nat) (μ : mmT) (H : Heap) (locs : List Loc) (ls : Array Slot), Mm G μ H → va_S (Ah G) s.heap H locs → lv_has ls 15 [(1, .ref (gX G 5)), (0, va_rf r0), (2, .int x2), (3, .int x3), (4, .int x4), (5, .int x5), (6, .int x6), (7, .int x7), (8, .int x8), (9, .int x9)] → w_L_isWhole_b161 G Q K127 r0 x2 x3 x4 x5 x6 x7 x8 x9 s0 t127 μ → W p l e { frames := 10, cells := 2326, slots := 13956, locals := 272 } s m args below meth c H locs (1442 + 6 * t127) (8652 + 36 * t127) (MQ below (mQ G (pI Q)) args s 2326 13956 (Ah G)) (F0 m 161 ls [.int s0]) := by
    intro K127 kK127 r0 x2 x3 x4 x5 x6 x7 x8 x9 s0 t127 μ H locs ls hM hS hl h
    unfold w_L_isWhole_b161 at h
    obtain ⟨ht127, h⟩ := h
    refine mz_aload_n (x := r0) S.1 S.2.1 dL_isWhole_161 rfl (lv_at hl 1 rfl) ?_
    refine lv_iload S.1 S.2.1 dL_isWhole_162 (lv_at hl 9 rfl) ?_
    refine mz_SH S hG hM hS (As := [va_rf r0, .int x9]) (rest := [.int s0]) (c_L_isFlying hl0 h) yh_L_isFlying tw_1247 tw_1248 ⟨Nat.le_of_ble_eq_true rfl, Nat.le_of_ble_eq_true rfl⟩ ⟨(by show (1442 + 6 * t127) + 1 ≤ 2326; omega), (by show (8652 + 36 * t127) + 6 ≤ 13956; omega)⟩ rfl hl.1 rfl (Nat.le_of_ble_eq_true rfl) dL_isWhole_164 (fun v9 μ9 H locs hp hM hS => ?_)
    obtain ⟨u117, rfl, e9, h⟩ := hp
    rw [e9] at hM
    refine W.cs (cells' := 1443 + 6 * t127) (slots' := 8658 + 36 * t127) (by first | omega | (dsimp only; omega)) (by first | omega | (dsimp only; omega)) ?_
    refine lv_iconst (v := (nI 1)) S.1 S.2.1 dL_isWhole_167 (by decide) ?_
    refine lv_icmp_ne (tgt := 175) S.1 S.2.1 dL_isWhole_168 (by decide) (fun c118 => ?_) (fun c118 => ?_)
    · have h := h.1 c118
      refine lv_iconst (v := (nI 0)) S.1 S.2.1 dL_isWhole_175 (by decide) ?_
      refine W.widen (k := 1443 + 6 * t127) (n := 8658 + 36 * t127) (by omega) (by omega) ?_
      exact hB176 K127 kK127 r0 x2 x3 x4 x5 x6 x7 x8 x9 s0 (nI 0) t127 μ H locs ls hM hS (lv_sub hl [0, 1, 2, 3, 4, 5, 6, 7, 8, 9] rfl) h
    · have h := h.2 c118
      refine lv_iconst (v := (nI 1)) S.1 S.2.1 dL_isWhole_171 (by decide) ?_
      refine lv_goto (tgt := 176) S.1 S.2.1 dL_isWhole_172 (by decide) ?_
      refine W.widen (k := 1443 + 6 * t127) (n := 8658 + 36 * t127) (by omega) (by omega) ?_
      exact hB176 K127 kK127 r0 x2 x3 x4 x5 x6 x7 x8 x9 s0 (nI 1) t127 μ H locs ls hM hS (lv_sub hl [0, 1, 2, 3, 4, 5, 6, 7, 8, 9] rfl) h
  have hB127 : ∀ (n : Nat) (r0 : Option Nat) (x2 : Int32) (x3 : Int32) (x4 : Int32) (x5 : Int32) (x6 : Int32) (x7 : Int32) (x8 : Int32) (x9 : Int32) (t127 : Nat) (μ : mmT) (H : Heap) (locs : List Loc) (ls : Array Slot), Mm G μ H → va_S (Ah G) s.heap H locs → lv_has ls 15 [(1, .ref (gX G 5)), (0, va_rf r0), (2, .int x2), (3, .int x3), (4, .int x4), (5, .int x5), (6, .int x6), (7, .int x7), (8, .int x8), (9, .int x9)] → w_L_isWhole_l127 G Q  n r0 x2 x3 x4 x5 x6 x7 x8 x9 t127 μ → W p l e { frames := 10, cells := 2326, slots := 13956, locals := 272 } s m args below meth c H locs (1440 + 6 * t127) (8640 + 36 * t127) (MQ below (mQ G (pI Q)) args s 2326 13956 (Ah G)) (F0 m 127 ls []) := by
    intro  n
    induction n with
    | zero =>
      intro r0 x2 x3 x4 x5 x6 x7 x8 x9 t127 μ H locs ls hM hS hl h
      exact False.elim h
    | succ n ih =>
      intro r0 x2 x3 x4 x5 x6 x7 x8 x9 t127 μ H locs ls hM hS hl h
      have h : w_L_isWhole_b127 G Q  (w_L_isWhole_l127 G Q  n) r0 x2 x3 x4 x5 x6 x7 x8 x9 t127 μ := h
      unfold w_L_isWhole_b127 at h
      obtain ⟨ht127, h⟩ := h
      refine lv_iload S.1 S.2.1 dL_isWhole_127 (lv_at hl 9 rfl) ?_
      refine mz_aload_n (x := r0) S.1 S.2.1 dL_isWhole_129 rfl (lv_at hl 1 rfl) ?_
      obtain ⟨a6, e7, h⟩ := h
      refine mz_o0 e7 ?_
      obtain ⟨k8, h⟩ := h
      refine mz_V S hG hM hS cf_9 k8 (As := []) (rest := [.int x9]) (c_X10_crowCount h) yf_X10_crowCount tw_1163 tw_1164 tw_1165 ⟨Nat.le_of_ble_eq_true rfl, Nat.le_of_ble_eq_true rfl⟩ ⟨(by show (1440 + 6 * t127) + 0 ≤ 2326; omega), (by show (8640 + 36 * t127) + 0 ≤ 13956; omega)⟩ rfl hl.1 rfl (Nat.le_of_ble_eq_true rfl) dL_isWhole_130 (fun v9 μ9 H locs hp hM hS => ?_)
      obtain ⟨u9, rfl, e9, h⟩ := hp
      rw [e9] at hM
      refine W.cs (cells' := 1440 + 6 * t127) (slots' := 8640 + 36 * t127) (by first | omega | (dsimp only; omega)) (by first | omega | (dsimp only; omega)) ?_
      refine lv_icmp_ge (tgt := 219) S.1 S.2.1 dL_isWhole_133 (by decide) (fun c10 => ?_) (fun c10 => ?_)
      · have h := h.1 c10
        refine lv_iconst (v := (nI 1)) S.1 S.2.1 dL_isWhole_219 (by decide) ?_
        refine lv_istore (lv' := [(9, .int (nI 1)), (1, .ref (gX G 5)), (0, va_rf r0), (2, .int x2), (3, .int x3), (4, .int x4), (5, .int x5), (6, .int x6), (7, .int x7), (8, .int x8)]) S.1 S.2.1 dL_isWhole_220 hl (by decide) rfl (fun ls hl => ?_)
        obtain ⟨n9, h⟩ := h
        refine W.widen (k := 1464 + 7 * 0) (n := 8784 + 42 * 0) (by omega) (by omega) ?_
        exact hB222  n9 r0 x2 x3 x4 x5 x6 x7 x8 (nI 1) 0 μ H locs ls hM hS (lv_sub hl [1, 2, 3, 4, 5, 6, 7, 8, 9, 0] rfl) h
      · have h := h.2 c10
        refine lv_iload S.1 S.2.1 dL_isWhole_136 (lv_at hl 8 rfl) ?_
        refine mz_aload_n (x := r0) S.1 S.2.1 dL_isWhole_138 rfl (lv_at hl 1 rfl) ?_
        refine lv_iload S.1 S.2.1 dL_isWhole_139 (lv_at hl 9 rfl) ?_
        refine mz_SH S hG hM hS (As := [va_rf r0, .int x9]) (rest := [.int x8]) (c_L_isFlying hl0 h) yh_L_isFlying tw_1247 tw_1248 ⟨Nat.le_of_ble_eq_true rfl, Nat.le_of_ble_eq_true rfl⟩ ⟨(by show (1440 + 6 * t127) + 1 ≤ 2326; omega), (by show (8640 + 36 * t127) + 6 ≤ 13956; omega)⟩ rfl hl.1 rfl (Nat.le_of_ble_eq_true rfl) dL_isWhole_141 (fun v9 μ9 H locs hp hM hS => ?_)
        obtain ⟨u114, rfl, e9, h⟩ := hp
        rw [e9] at hM
        refine W.cs (cells' := 1441 + 6 * t127) (slots' := 8646 + 36 * t127) (by first | omega | (dsimp only; omega)) (by first | omega | (dsimp only; omega)) ?_
        refine lv_iadd S.1 S.2.1 dL_isWhole_144 ?_
        refine lv_istore (lv' := [(8, .int (x8 + u114)), (1, .ref (gX G 5)), (0, va_rf r0), (2, .int x2), (3, .int x3), (4, .int x4), (5, .int x5), (6, .int x6), (7, .int x7), (9, .int x9)]) S.1 S.2.1 dL_isWhole_145 hl (by decide) rfl (fun ls hl => ?_)
        refine mz_aload_n (x := r0) S.1 S.2.1 dL_isWhole_147 rfl (lv_at hl 2 rfl) ?_
        refine lv_iload S.1 S.2.1 dL_isWhole_148 (lv_at hl 9 rfl) ?_
        refine mz_SH S hG hM hS (As := [va_rf r0, .int x9]) (rest := []) (c_L_flightMinutes hl0 h) yh_L_flightMinutes tw_1184 tw_1185 ⟨Nat.le_of_ble_eq_true rfl, Nat.le_of_ble_eq_true rfl⟩ ⟨(by show (1441 + 6 * t127) + 1 ≤ 2326; omega), (by show (8646 + 36 * t127) + 6 ≤ 13956; omega)⟩ rfl hl.1 rfl (Nat.le_of_ble_eq_true rfl) dL_isWhole_150 (fun v9 μ9 H locs hp hM hS => ?_)
        obtain ⟨u115, rfl, e9, h⟩ := hp
        rw [e9] at hM
        refine W.cs (cells' := 1442 + 6 * t127) (slots' := 8652 + 36 * t127) (by first | omega | (dsimp only; omega)) (by first | omega | (dsimp only; omega)) ?_
        refine lv_if_le (tgt := 160) S.1 S.2.1 dL_isWhole_153 (by decide) (fun c116 => ?_) (fun c116 => ?_)
        · have h := h.1 c116
          refine lv_iconst (v := (nI 0)) S.1 S.2.1 dL_isWhole_160 (by decide) ?_
          refine W.widen (k := 1442 + 6 * t127) (n := 8652 + 36 * t127) (by omega) (by omega) ?_
          exact hB161 (w_L_isWhole_l127 G Q  n) ih r0 x2 x3 x4 x5 x6 x7 (x8 + u114) x9 (nI 0) t127 μ H locs ls hM hS (lv_sub hl [1, 2, 3, 4, 5, 6, 7, 8, 0, 9] rfl) h
        · have h := h.2 c116
          refine lv_iconst (v := (nI 1)) S.1 S.2.1 dL_isWhole_156 (by decide) ?_
          refine lv_goto (tgt := 161) S.1 S.2.1 dL_isWhole_157 (by decide) ?_
          refine W.widen (k := 1442 + 6 * t127) (n := 8652 + 36 * t127) (by omega) (by omega) ?_
          exact hB161 (w_L_isWhole_l127 G Q  n) ih r0 x2 x3 x4 x5 x6 x7 (x8 + u114) x9 (nI 1) t127 μ H locs ls hM hS (lv_sub hl [1, 2, 3, 4, 5, 6, 7, 8, 0, 9] rfl) h
  have hB112 : ∀ (K18 : Option Nat → Int32 → Int32 → Int32 → Int32 → Int32 → Int32 → Int32 → Nat → mmT → Prop) (kK18 : ∀ (r0 : Option Nat) (x2 : Int32) (x3 : Int32) (x4 : Int32) (x5 : Int32) (x6 : Int32) (x7 : Int32) (x8 : Int32) (t18 : Nat) (μ : mmT) (H : Heap) (locs : List Loc) (ls : Array Slot), Mm G μ H → va_S (Ah G) s.heap H locs → lv_has ls 15 [(1, .ref (gX G 5)), (0, va_rf r0), (2, .int x2), (3, .int x3), (4, .int x4), (5, .int x5), (6, .int x6), (7, .int x7), (8, .int x8)] → K18 r0 x2 x3 x4 x5 x6 x7 x8 t18 μ → W p l e { frames := 10, cells := 2326, slots := 13956, locals := 272 } s m args below meth c H locs (0 + 90 * t18) (0 + 540 * t18) (MQ below (mQ G (pI Q)) args s 2326 13956 (Ah G)) (F0 m 18 ls [])) (r0 : Option Nat) (x2 : Int32) (x3 : Int32) (x4 : Int32) (x5 : Int32) (x6 : Int32) (x8 : Int32) (s0 : Int32) (s1 : Int32) (t18 : Nat) (μ : mmT) (H : Heap) (locs : List Loc) (ls : Array Slot), Mm G μ H → va_S (Ah G) s.heap H locs → lv_has ls 15 [(1, .ref (gX G 5)), (0, va_rf r0), (2, .int x2), (3, .int x3), (4, .int x4), (5, .int x5), (6, .int x6), (8, .int x8)] → w_L_isWhole_b112 G Q K18 r0 x2 x3 x4 x5 x6 x8 s0 s1 t18 μ → W p l e { frames := 10, cells := 2326, slots := 13956, locals := 272 } s m args below meth c H locs (90 + 90 * t18) (540 + 540 * t18) (MQ below (mQ G (pI Q)) args s 2326 13956 (Ah G)) (F0 m 112 ls [.int s1, .int s0]) := by
    intro K18 kK18 r0 x2 x3 x4 x5 x6 x8 s0 s1 t18 μ H locs ls hM hS hl h
    unfold w_L_isWhole_b112 at h
    obtain ⟨ht18, h⟩ := h
    refine lv_iadd S.1 S.2.1 dL_isWhole_112 ?_
    refine lv_istore (lv' := [(7, .int (s0 + s1)), (1, .ref (gX G 5)), (0, va_rf r0), (2, .int x2), (3, .int x3), (4, .int x4), (5, .int x5), (6, .int x6), (8, .int x8)]) S.1 S.2.1 dL_isWhole_113 hl (by decide) rfl (fun ls hl => ?_)
    refine lv_iinc (v := (x8 + nI 1)) (lv' := [(8, .int (x8 + nI 1)), (7, .int (s0 + s1)), (1, .ref (gX G 5)), (0, va_rf r0), (2, .int x2), (3, .int x3), (4, .int x4), (5, .int x5), (6, .int x6)]) S.1 S.2.1 dL_isWhole_115 hl (k := 8) rfl rfl (by decide) rfl (fun ls hl => ?_)
    refine lv_goto (tgt := 18) S.1 S.2.1 dL_isWhole_118 (by decide) ?_
    refine W.widen (k := 0 + 90 * (t18 + 1)) (n := 0 + 540 * (t18 + 1)) (by omega) (by omega) ?_
    exact kK18 r0 x2 x3 x4 x5 x6 (s0 + s1) (x8 + nI 1) (t18 + 1) μ H locs ls hM hS (lv_sub hl [2, 3, 4, 5, 6, 7, 8, 1, 0] rfl) h
  have hB91 : ∀ (K18 : Option Nat → Int32 → Int32 → Int32 → Int32 → Int32 → Int32 → Int32 → Nat → mmT → Prop) (kK18 : ∀ (r0 : Option Nat) (x2 : Int32) (x3 : Int32) (x4 : Int32) (x5 : Int32) (x6 : Int32) (x7 : Int32) (x8 : Int32) (t18 : Nat) (μ : mmT) (H : Heap) (locs : List Loc) (ls : Array Slot), Mm G μ H → va_S (Ah G) s.heap H locs → lv_has ls 15 [(1, .ref (gX G 5)), (0, va_rf r0), (2, .int x2), (3, .int x3), (4, .int x4), (5, .int x5), (6, .int x6), (7, .int x7), (8, .int x8)] → K18 r0 x2 x3 x4 x5 x6 x7 x8 t18 μ → W p l e { frames := 10, cells := 2326, slots := 13956, locals := 272 } s m args below meth c H locs (0 + 90 * t18) (0 + 540 * t18) (MQ below (mQ G (pI Q)) args s 2326 13956 (Ah G)) (F0 m 18 ls [])) (r0 : Option Nat) (x2 : Int32) (x3 : Int32) (x4 : Int32) (x5 : Int32) (x7 : Int32) (x8 : Int32) (x9 : Int32) (s0 : Int32) (s1 : Int32) (t18 : Nat) (μ : mmT) (H : Heap) (locs : List Loc) (ls : Array Slot), Mm G μ H → va_S (Ah G) s.heap H locs → lv_has ls 15 [(1, .ref (gX G 5)), (0, va_rf r0), (2, .int x2), (3, .int x3), (4, .int x4), (5, .int x5), (7, .int x7), (8, .int x8), (9, .int x9)] → w_L_isWhole_b91 G Q K18 r0 x2 x3 x4 x5 x7 x8 x9 s0 s1 t18 μ → W p l e { frames := 10, cells := 2326, slots := 13956, locals := 272 } s m args below meth c H locs (89 + 90 * t18) (534 + 540 * t18) (MQ below (mQ G (pI Q)) args s 2326 13956 (Ah G)) (F0 m 91 ls [.int s1, .int s0]) := by
    intro K18 kK18 r0 x2 x3 x4 x5 x7 x8 x9 s0 s1 t18 μ H locs ls hM hS hl h
    unfold w_L_isWhole_b91 at h
    obtain ⟨ht18, h⟩ := h
    refine lv_iadd S.1 S.2.1 dL_isWhole_91 ?_
    refine lv_istore (lv' := [(6, .int (s0 + s1)), (1, .ref (gX G 5)), (0, va_rf r0), (2, .int x2), (3, .int x3), (4, .int x4), (5, .int x5), (7, .int x7), (8, .int x8), (9, .int x9)]) S.1 S.2.1 dL_isWhole_92 hl (by decide) rfl (fun ls hl => ?_)
    refine lv_iload S.1 S.2.1 dL_isWhole_94 (lv_at hl 7 rfl) ?_
    refine mz_aload_n (x := r0) S.1 S.2.1 dL_isWhole_96 rfl (lv_at hl 2 rfl) ?_
    refine lv_iload S.1 S.2.1 dL_isWhole_97 (lv_at hl 9 rfl) ?_
    refine mz_SH S hG hM hS (As := [va_rf r0, .int x9]) (rest := [.int x7]) (c_L_status hl0 h) yh_L_status tw_483 tw_484 ⟨Nat.le_of_ble_eq_true rfl, Nat.le_of_ble_eq_true rfl⟩ ⟨(by show (89 + 90 * t18) + 1 ≤ 2326; omega), (by show (534 + 540 * t18) + 6 ≤ 13956; omega)⟩ rfl hl.1 rfl (Nat.le_of_ble_eq_true rfl) dL_isWhole_99 (fun v9 μ9 H locs hp hM hS => ?_)
    obtain ⟨u133, rfl, e9, h⟩ := hp
    rw [e9] at hM
    refine W.cs (cells' := 90 + 90 * t18) (slots' := 540 + 540 * t18) (by first | omega | (dsimp only; omega)) (by first | omega | (dsimp only; omega)) ?_
    refine lv_bipush (v := (nI 100)) S.1 S.2.1 dL_isWhole_102 (by decide) ?_
    refine lv_icmp_ne (tgt := 111) S.1 S.2.1 dL_isWhole_104 (by decide) (fun c134 => ?_) (fun c134 => ?_)
    · have h := h.1 c134
      refine lv_iconst (v := (nI 0)) S.1 S.2.1 dL_isWhole_111 (by decide) ?_
      refine W.widen (k := 90 + 90 * t18) (n := 540 + 540 * t18) (by omega) (by omega) ?_
      exact hB112 K18 kK18 r0 x2 x3 x4 x5 (s0 + s1) x8 x7 (nI 0) t18 μ H locs ls hM hS (lv_sub hl [1, 2, 3, 4, 5, 6, 0, 8] rfl) h
    · have h := h.2 c134
      refine lv_iconst (v := (nI 1)) S.1 S.2.1 dL_isWhole_107 (by decide) ?_
      refine lv_goto (tgt := 112) S.1 S.2.1 dL_isWhole_108 (by decide) ?_
      refine W.widen (k := 90 + 90 * t18) (n := 540 + 540 * t18) (by omega) (by omega) ?_
      exact hB112 K18 kK18 r0 x2 x3 x4 x5 (s0 + s1) x8 x7 (nI 1) t18 μ H locs ls hM hS (lv_sub hl [1, 2, 3, 4, 5, 6, 0, 8] rfl) h
  have hB54 : ∀ (K18 : Option Nat → Int32 → Int32 → Int32 → Int32 → Int32 → Int32 → Int32 → Nat → mmT → Prop) (kK18 : ∀ (r0 : Option Nat) (x2 : Int32) (x3 : Int32) (x4 : Int32) (x5 : Int32) (x6 : Int32) (x7 : Int32) (x8 : Int32) (t18 : Nat) (μ : mmT) (H : Heap) (locs : List Loc) (ls : Array Slot), Mm G μ H → va_S (Ah G) s.heap H locs → lv_has ls 15 [(1, .ref (gX G 5)), (0, va_rf r0), (2, .int x2), (3, .int x3), (4, .int x4), (5, .int x5), (6, .int x6), (7, .int x7), (8, .int x8)] → K18 r0 x2 x3 x4 x5 x6 x7 x8 t18 μ → W p l e { frames := 10, cells := 2326, slots := 13956, locals := 272 } s m args below meth c H locs (0 + 90 * t18) (0 + 540 * t18) (MQ below (mQ G (pI Q)) args s 2326 13956 (Ah G)) (F0 m 18 ls [])) (r0 : Option Nat) (x2 : Int32) (x3 : Int32) (x4 : Int32) (x5 : Int32) (x6 : Int32) (x7 : Int32) (x8 : Int32) (t18 : Nat) (μ : mmT) (H : Heap) (locs : List Loc) (ls : Array Slot), Mm G μ H → va_S (Ah G) s.heap H locs → lv_has ls 15 [(1, .ref (gX G 5)), (0, va_rf r0), (2, .int x2), (3, .int x3), (4, .int x4), (5, .int x5), (6, .int x6), (7, .int x7), (8, .int x8)] → w_L_isWhole_b54 G Q K18 r0 x2 x3 x4 x5 x6 x7 x8 t18 μ → W p l e { frames := 10, cells := 2326, slots := 13956, locals := 272 } s m args below meth c H locs (86 + 90 * t18) (516 + 540 * t18) (MQ below (mQ G (pI Q)) args s 2326 13956 (Ah G)) (F0 m 54 ls []) := by
    intro K18 kK18 r0 x2 x3 x4 x5 x6 x7 x8 t18 μ H locs ls hM hS hl h
    unfold w_L_isWhole_b54 at h
    obtain ⟨ht18, h⟩ := h
    refine mz_aload_n (x := r0) S.1 S.2.1 dL_isWhole_54 rfl (lv_at hl 1 rfl) ?_
    refine lv_iload S.1 S.2.1 dL_isWhole_55 (lv_at hl 8 rfl) ?_
    refine mz_SH S hG hM hS (As := [va_rf r0, .int x8]) (rest := []) (c_L_messageAt hl0 h) yh_L_messageAt tw_405 tw_406 ⟨Nat.le_of_ble_eq_true rfl, Nat.le_of_ble_eq_true rfl⟩ ⟨(by show (86 + 90 * t18) + 1 ≤ 2326; omega), (by show (516 + 540 * t18) + 6 ≤ 13956; omega)⟩ rfl hl.1 rfl (Nat.le_of_ble_eq_true rfl) dL_isWhole_57 (fun v9 μ9 H locs hp hM hS => ?_)
    obtain ⟨u129, rfl, e9, h⟩ := hp
    rw [e9] at hM
    refine W.cs (cells' := 87 + 90 * t18) (slots' := 522 + 540 * t18) (by first | omega | (dsimp only; omega)) (by first | omega | (dsimp only; omega)) ?_
    refine lv_istore (lv' := [(9, .int u129), (1, .ref (gX G 5)), (0, va_rf r0), (2, .int x2), (3, .int x3), (4, .int x4), (5, .int x5), (6, .int x6), (7, .int x7), (8, .int x8)]) S.1 S.2.1 dL_isWhole_60 hl (by decide) rfl (fun ls hl => ?_)
    refine lv_iload S.1 S.2.1 dL_isWhole_62 (lv_at hl 6 rfl) ?_
    refine mz_aload_n (x := r0) S.1 S.2.1 dL_isWhole_64 rfl (lv_at hl 2 rfl) ?_
    refine lv_iload S.1 S.2.1 dL_isWhole_65 (lv_at hl 0 rfl) ?_
    refine mz_SH S hG hM hS (As := [va_rf r0, .int u129]) (rest := [.int x5]) (c_L_attempts hl0 h) yh_L_attempts tw_1205 tw_1206 ⟨Nat.le_of_ble_eq_true rfl, Nat.le_of_ble_eq_true rfl⟩ ⟨(by show (87 + 90 * t18) + 1 ≤ 2326; omega), (by show (522 + 540 * t18) + 6 ≤ 13956; omega)⟩ rfl hl.1 rfl (Nat.le_of_ble_eq_true rfl) dL_isWhole_67 (fun v9 μ9 H locs hp hM hS => ?_)
    obtain ⟨u130, rfl, e9, h⟩ := hp
    rw [e9] at hM
    refine W.cs (cells' := 88 + 90 * t18) (slots' := 528 + 540 * t18) (by first | omega | (dsimp only; omega)) (by first | omega | (dsimp only; omega)) ?_
    refine lv_iadd S.1 S.2.1 dL_isWhole_70 ?_
    refine lv_istore (lv' := [(5, .int (x5 + u130)), (9, .int u129), (1, .ref (gX G 5)), (0, va_rf r0), (2, .int x2), (3, .int x3), (4, .int x4), (6, .int x6), (7, .int x7), (8, .int x8)]) S.1 S.2.1 dL_isWhole_71 hl (by decide) rfl (fun ls hl => ?_)
    refine lv_iload S.1 S.2.1 dL_isWhole_73 (lv_at hl 7 rfl) ?_
    refine mz_aload_n (x := r0) S.1 S.2.1 dL_isWhole_75 rfl (lv_at hl 3 rfl) ?_
    refine lv_iload S.1 S.2.1 dL_isWhole_76 (lv_at hl 1 rfl) ?_
    refine mz_SH S hG hM hS (As := [va_rf r0, .int u129]) (rest := [.int x6]) (c_L_status hl0 h) yh_L_status tw_483 tw_484 ⟨Nat.le_of_ble_eq_true rfl, Nat.le_of_ble_eq_true rfl⟩ ⟨(by show (88 + 90 * t18) + 1 ≤ 2326; omega), (by show (528 + 540 * t18) + 6 ≤ 13956; omega)⟩ rfl hl.1 rfl (Nat.le_of_ble_eq_true rfl) dL_isWhole_78 (fun v9 μ9 H locs hp hM hS => ?_)
    obtain ⟨u131, rfl, e9, h⟩ := hp
    rw [e9] at hM
    refine W.cs (cells' := 89 + 90 * t18) (slots' := 534 + 540 * t18) (by first | omega | (dsimp only; omega)) (by first | omega | (dsimp only; omega)) ?_
    refine lv_bipush (v := (nI 102)) S.1 S.2.1 dL_isWhole_81 (by decide) ?_
    refine lv_icmp_ne (tgt := 90) S.1 S.2.1 dL_isWhole_83 (by decide) (fun c132 => ?_) (fun c132 => ?_)
    · have h := h.1 c132
      refine lv_iconst (v := (nI 0)) S.1 S.2.1 dL_isWhole_90 (by decide) ?_
      refine W.widen (k := 89 + 90 * t18) (n := 534 + 540 * t18) (by omega) (by omega) ?_
      exact hB91 K18 kK18 r0 x2 x3 x4 (x5 + u130) x7 x8 u129 x6 (nI 0) t18 μ H locs ls hM hS (lv_sub hl [2, 3, 4, 5, 6, 0, 8, 9, 1] rfl) h
    · have h := h.2 c132
      refine lv_iconst (v := (nI 1)) S.1 S.2.1 dL_isWhole_86 (by decide) ?_
      refine lv_goto (tgt := 91) S.1 S.2.1 dL_isWhole_87 (by decide) ?_
      refine W.widen (k := 89 + 90 * t18) (n := 534 + 540 * t18) (by omega) (by omega) ?_
      exact hB91 K18 kK18 r0 x2 x3 x4 (x5 + u130) x7 x8 u129 x6 (nI 1) t18 μ H locs ls hM hS (lv_sub hl [2, 3, 4, 5, 6, 0, 8, 9, 1] rfl) h
  have hB43 : ∀ (K18 : Option Nat → Int32 → Int32 → Int32 → Int32 → Int32 → Int32 → Int32 → Nat → mmT → Prop) (kK18 : ∀ (r0 : Option Nat) (x2 : Int32) (x3 : Int32) (x4 : Int32) (x5 : Int32) (x6 : Int32) (x7 : Int32) (x8 : Int32) (t18 : Nat) (μ : mmT) (H : Heap) (locs : List Loc) (ls : Array Slot), Mm G μ H → va_S (Ah G) s.heap H locs → lv_has ls 15 [(1, .ref (gX G 5)), (0, va_rf r0), (2, .int x2), (3, .int x3), (4, .int x4), (5, .int x5), (6, .int x6), (7, .int x7), (8, .int x8)] → K18 r0 x2 x3 x4 x5 x6 x7 x8 t18 μ → W p l e { frames := 10, cells := 2326, slots := 13956, locals := 272 } s m args below meth c H locs (0 + 90 * t18) (0 + 540 * t18) (MQ below (mQ G (pI Q)) args s 2326 13956 (Ah G)) (F0 m 18 ls [])) (r0 : Option Nat) (x2 : Int32) (x3 : Int32) (x4 : Int32) (x5 : Int32) (x6 : Int32) (x7 : Int32) (x8 : Int32) (t18 : Nat) (μ : mmT) (H : Heap) (locs : List Loc) (ls : Array Slot), Mm G μ H → va_S (Ah G) s.heap H locs → lv_has ls 15 [(1, .ref (gX G 5)), (0, va_rf r0), (2, .int x2), (3, .int x3), (4, .int x4), (5, .int x5), (6, .int x6), (7, .int x7), (8, .int x8)] → w_L_isWhole_b43 G Q K18 r0 x2 x3 x4 x5 x6 x7 x8 t18 μ → W p l e { frames := 10, cells := 2326, slots := 13956, locals := 272 } s m args below meth c H locs (0 + 90 * t18) (0 + 540 * t18) (MQ below (mQ G (pI Q)) args s 2326 13956 (Ah G)) (F0 m 43 ls []) := by
    intro K18 kK18 r0 x2 x3 x4 x5 x6 x7 x8 t18 μ H locs ls hM hS hl h
    unfold w_L_isWhole_b43 at h
    obtain ⟨ht18, h⟩ := h
    refine mz_aload_n (x := r0) S.1 S.2.1 dL_isWhole_43 rfl (lv_at hl 1 rfl) ?_
    refine lv_iload S.1 S.2.1 dL_isWhole_44 (lv_at hl 8 rfl) ?_
    refine mz_S S hG hM hS (As := [va_rf r0, .int x8]) (rest := []) (c_L_isMessage hl0 h) yf_L_isMessage tw_1216 tw_1217 ⟨Nat.le_of_ble_eq_true rfl, Nat.le_of_ble_eq_true rfl⟩ ⟨(by show (0 + 90 * t18) + 86 ≤ 2326; omega), (by show (0 + 540 * t18) + 516 ≤ 13956; omega)⟩ rfl hl.1 rfl (Nat.le_of_ble_eq_true rfl) dL_isWhole_46 (fun v9 μ127 H locs hp hM hS => ?_)
    obtain ⟨u126, rfl, h⟩ := hp
    refine W.cs (cells' := 86 + 90 * t18) (slots' := 516 + 540 * t18) (by first | omega | (dsimp only; omega)) (by first | omega | (dsimp only; omega)) ?_
    refine lv_if_ne (tgt := 54) S.1 S.2.1 dL_isWhole_49 (by decide) (fun c128 => ?_) (fun c128 => ?_)
    · have h := h.1 c128
      refine W.widen (k := 86 + 90 * t18) (n := 516 + 540 * t18) (by omega) (by omega) ?_
      exact hB54 K18 kK18 r0 x2 x3 x4 x5 x6 x7 x8 t18 μ127 H locs ls hM hS (lv_sub hl [0, 1, 2, 3, 4, 5, 6, 7, 8] rfl) h
    · have h := h.2 c128
      refine lv_iconst (v := (nI 0)) S.1 S.2.1 dL_isWhole_52 (by decide) ?_
      exact mz_iret S hr hlk hM hS rfl (by show _ ≤ 2326; omega) (by show _ ≤ 13956; omega) dL_isWhole_53 ⟨_, rfl, h⟩
  have hB18 : ∀ (n : Nat) (r0 : Option Nat) (x2 : Int32) (x3 : Int32) (x4 : Int32) (x5 : Int32) (x6 : Int32) (x7 : Int32) (x8 : Int32) (t18 : Nat) (μ : mmT) (H : Heap) (locs : List Loc) (ls : Array Slot), Mm G μ H → va_S (Ah G) s.heap H locs → lv_has ls 15 [(1, .ref (gX G 5)), (0, va_rf r0), (2, .int x2), (3, .int x3), (4, .int x4), (5, .int x5), (6, .int x6), (7, .int x7), (8, .int x8)] → w_L_isWhole_l18 G Q  n r0 x2 x3 x4 x5 x6 x7 x8 t18 μ → W p l e { frames := 10, cells := 2326, slots := 13956, locals := 272 } s m args below meth c H locs (0 + 90 * t18) (0 + 540 * t18) (MQ below (mQ G (pI Q)) args s 2326 13956 (Ah G)) (F0 m 18 ls []) := by
    intro  n
    induction n with
    | zero =>
      intro r0 x2 x3 x4 x5 x6 x7 x8 t18 μ H locs ls hM hS hl h
      exact False.elim h
    | succ n ih =>
      intro r0 x2 x3 x4 x5 x6 x7 x8 t18 μ H locs ls hM hS hl h
      have h : w_L_isWhole_b18 G Q  (w_L_isWhole_l18 G Q  n) r0 x2 x3 x4 x5 x6 x7 x8 t18 μ := h
      unfold w_L_isWhole_b18 at h
      obtain ⟨ht18, h⟩ := h
      refine lv_iload S.1 S.2.1 dL_isWhole_18 (lv_at hl 8 rfl) ?_
      refine lv_iload S.1 S.2.1 dL_isWhole_20 (lv_at hl 4 rfl) ?_
      refine lv_icmp_ge (tgt := 121) S.1 S.2.1 dL_isWhole_22 (by decide) (fun c5 => ?_) (fun c5 => ?_)
      · have h := h.1 c5
        refine lv_iconst (v := (nI 0)) S.1 S.2.1 dL_isWhole_121 (by decide) ?_
        refine lv_istore (lv' := [(8, .int (nI 0)), (1, .ref (gX G 5)), (0, va_rf r0), (2, .int x2), (3, .int x3), (4, .int x4), (5, .int x5), (6, .int x6), (7, .int x7)]) S.1 S.2.1 dL_isWhole_122 hl (by decide) rfl (fun ls hl => ?_)
        refine lv_iconst (v := (nI 0)) S.1 S.2.1 dL_isWhole_124 (by decide) ?_
        refine lv_istore (lv' := [(9, .int (nI 0)), (8, .int (nI 0)), (1, .ref (gX G 5)), (0, va_rf r0), (2, .int x2), (3, .int x3), (4, .int x4), (5, .int x5), (6, .int x6), (7, .int x7)]) S.1 S.2.1 dL_isWhole_125 hl (by decide) rfl (fun ls hl => ?_)
        obtain ⟨n9, h⟩ := h
        refine W.widen (k := 1440 + 6 * 0) (n := 8640 + 36 * 0) (by omega) (by omega) ?_
        exact hB127  n9 r0 x2 x3 x4 x5 x6 x7 (nI 0) (nI 0) 0 μ H locs ls hM hS (lv_sub hl [2, 3, 4, 5, 6, 7, 8, 9, 1, 0] rfl) h
      · have h := h.2 c5
        refine lv_iload_n S.1 S.2.1 dL_isWhole_25 rfl (lv_at hl 3 rfl) ?_
        refine lv_if_ne (tgt := 43) S.1 S.2.1 dL_isWhole_26 (by decide) (fun c125 => ?_) (fun c125 => ?_)
        · have h := h.1 c125
          refine W.widen (k := 0 + 90 * t18) (n := 0 + 540 * t18) (by omega) (by omega) ?_
          exact hB43 (w_L_isWhole_l18 G Q  n) ih r0 x2 x3 x4 x5 x6 x7 x8 t18 μ H locs ls hM hS (lv_sub hl [0, 1, 2, 3, 4, 5, 6, 7, 8] rfl) h
        · have h := h.2 c125
          refine lv_iload S.1 S.2.1 dL_isWhole_29 (lv_at hl 8 rfl) ?_
          refine lv_aload_n S.1 S.2.1 dL_isWhole_31 rfl (lv_at hl 0 rfl) ?_
          refine lv_iload_n S.1 S.2.1 dL_isWhole_32 rfl (lv_at hl 2 rfl) ?_
          refine lv_iconst (v := (nI 1)) S.1 S.2.1 dL_isWhole_33 (by decide) ?_
          refine lv_iadd S.1 S.2.1 dL_isWhole_34 ?_
          refine lv_bipush (v := (nI 16)) S.1 S.2.1 dL_isWhole_35 (by decide) ?_
          refine mz_S S hG hM hS (As := [.ref (gX G 5), .int (x2 + (nI 1)), .int (nI 16)]) (rest := [.int x8]) (c_L_pick h) yf_L_pick tw_398 tw_399 ⟨Nat.le_of_ble_eq_true rfl, Nat.le_of_ble_eq_true rfl⟩ ⟨(by show (0 + 90 * t18) + 0 ≤ 2326; omega), (by show (0 + 540 * t18) + 0 ≤ 13956; omega)⟩ rfl hl.1 rfl (Nat.le_of_ble_eq_true rfl) dL_isWhole_37 (fun v9 μ9 H locs hp hM hS => ?_)
          obtain ⟨u135, rfl, e9, h⟩ := hp
          rw [e9] at hM
          refine W.cs (cells' := 0 + 90 * t18) (slots' := 0 + 540 * t18) (by first | omega | (dsimp only; omega)) (by first | omega | (dsimp only; omega)) ?_
          refine lv_icmp_ne (tgt := 54) S.1 S.2.1 dL_isWhole_40 (by decide) (fun c136 => ?_) (fun c136 => ?_)
          · have h := h.1 c136
            refine W.widen (k := 86 + 90 * t18) (n := 516 + 540 * t18) (by omega) (by omega) ?_
            exact hB54 (w_L_isWhole_l18 G Q  n) ih r0 x2 x3 x4 x5 x6 x7 x8 t18 μ H locs ls hM hS (lv_sub hl [0, 1, 2, 3, 4, 5, 6, 7, 8] rfl) h
          · have h := h.2 c136
            refine W.widen (k := 0 + 90 * t18) (n := 0 + 540 * t18) (by omega) (by omega) ?_
            exact hB43 (w_L_isWhole_l18 G Q  n) ih r0 x2 x3 x4 x5 x6 x7 x8 t18 μ H locs ls hM hS (lv_sub hl [0, 1, 2, 3, 4, 5, 6, 7, 8] rfl) h
  intro H locs ls hM hS hl
  have hl : lv_has ls 15 [(0, va_rf r0), (1, .ref (gX G 5)), (2, .int x2), (3, .int x3)] := by simpa [lv_args, mz_cat, mz_cr, mz_ci, mz_cl, mz_cf, mz_cd, mz_cn] using hl
  unfold w_L_isWhole at h
  refine mz_aload_n (x := r0) S.1 S.2.1 dL_isWhole_0 rfl (lv_at hl 0 rfl) ?_
  obtain ⟨a1, e2, h⟩ := h
  refine mz_o0 e2 ?_
  obtain ⟨k3, h⟩ := h
  refine mz_V S hG hM hS cf_9 k3 (As := []) (rest := []) (c_X10_messageCount h) yf_X10_messageCount tw_374 tw_375 tw_376 ⟨Nat.le_of_ble_eq_true rfl, Nat.le_of_ble_eq_true rfl⟩ ⟨(Nat.le_of_ble_eq_true rfl), (Nat.le_of_ble_eq_true rfl)⟩ rfl hl.1 rfl (Nat.le_of_ble_eq_true rfl) dL_isWhole_1 (fun v9 μ9 H locs hp hM hS => ?_)
  obtain ⟨u4, rfl, e9, h⟩ := hp
  rw [e9] at hM
  refine W.cs (cells' := 0) (slots' := 0) rfl rfl ?_
  refine lv_istore (lv' := [(4, .int u4), (0, va_rf r0), (1, .ref (gX G 5)), (2, .int x2), (3, .int x3)]) S.1 S.2.1 dL_isWhole_4 hl (by decide) rfl (fun ls hl => ?_)
  refine lv_iconst (v := (nI 0)) S.1 S.2.1 dL_isWhole_6 (by decide) ?_
  refine lv_istore (lv' := [(5, .int (nI 0)), (4, .int u4), (0, va_rf r0), (1, .ref (gX G 5)), (2, .int x2), (3, .int x3)]) S.1 S.2.1 dL_isWhole_7 hl (by decide) rfl (fun ls hl => ?_)
  refine lv_iconst (v := (nI 0)) S.1 S.2.1 dL_isWhole_9 (by decide) ?_
  refine lv_istore (lv' := [(6, .int (nI 0)), (5, .int (nI 0)), (4, .int u4), (0, va_rf r0), (1, .ref (gX G 5)), (2, .int x2), (3, .int x3)]) S.1 S.2.1 dL_isWhole_10 hl (by decide) rfl (fun ls hl => ?_)
  refine lv_iconst (v := (nI 0)) S.1 S.2.1 dL_isWhole_12 (by decide) ?_
  refine lv_istore (lv' := [(7, .int (nI 0)), (6, .int (nI 0)), (5, .int (nI 0)), (4, .int u4), (0, va_rf r0), (1, .ref (gX G 5)), (2, .int x2), (3, .int x3)]) S.1 S.2.1 dL_isWhole_13 hl (by decide) rfl (fun ls hl => ?_)
  refine lv_iconst (v := (nI 0)) S.1 S.2.1 dL_isWhole_15 (by decide) ?_
  refine lv_istore (lv' := [(8, .int (nI 0)), (7, .int (nI 0)), (6, .int (nI 0)), (5, .int (nI 0)), (4, .int u4), (0, va_rf r0), (1, .ref (gX G 5)), (2, .int x2), (3, .int x3)]) S.1 S.2.1 dL_isWhole_16 hl (by decide) rfl (fun ls hl => ?_)
  obtain ⟨n9, h⟩ := h
  refine W.widen (k := 0 + 90 * 0) (n := 0 + 540 * 0) (by omega) (by omega) ?_
  exact hB18  n9 r0 x2 x3 u4 (nI 0) (nI 0) (nI 0) (nI 0) 0 μ H locs ls hM hS (lv_sub hl [6, 5, 7, 8, 4, 3, 2, 1, 0] rfl) h
set_option maxRecDepth 100000 in
set_option maxHeartbeats 4000000 in
theorem cB_L_law_451 {p : Program} {l : Launch} {e : Env} {s : State} {m : MethodId} {args : Array Value} {below : List Frame} {meth : Method} {c : Code} {Z : State → Prop} {G : mgT} (hl0 : l.stackTraces = false) (S : CallFix p m c cL_law 22 s args TT RL) (hG : GK G s s.heap) (hgh : gh G = s.heap.size) (hend : ∀ (pc : Nat) (H : Heap) (ls : Array Slot), decode cL_law pc = .ok (.ireturn, 1) → W p l e room_1 s m args below meth c H [] 752906 6831448 Z (F0 m pc ls [.int 1])) : ∀ (μ : mmT) (H : Heap) (locs : List Loc) (ls : Array Slot), Mm G μ H → va_S (Ah G) s.heap H locs → lv_has ls 22 [(0, .ref (gX G 5))] → w_L_law_b451 G  μ → W p l e room_1 s m args below meth c H locs (181202) (1089567) Z (F0 m 451 ls []) := by
  intro  μ H locs ls hM hS hl h
  unfold w_L_law_b451 at h
  refine lv_iconst (v := (nI 0)) S.1 S.2.1 dL_law_451 (by decide) ?_
  exact h.elim
set_option maxRecDepth 100000 in
set_option maxHeartbeats 4000000 in
theorem cB_L_law_482 {p : Program} {l : Launch} {e : Env} {s : State} {m : MethodId} {args : Array Value} {below : List Frame} {meth : Method} {c : Code} {Z : State → Prop} {G : mgT} (hl0 : l.stackTraces = false) (S : CallFix p m c cL_law 22 s args TT RL) (hG : GK G s s.heap) (hgh : gh G = s.heap.size) (hend : ∀ (pc : Nat) (H : Heap) (ls : Array Slot), decode cL_law pc = .ok (.ireturn, 1) → W p l e room_1 s m args below meth c H [] 752906 6831448 Z (F0 m pc ls [.int 1])) : ∀ (K28 : Option Nat → Option Nat → Int32 → Int32 → Int32 → Nat → mmT → Prop) (kK28 : ∀ (r1 : Option Nat) (r2 : Option Nat) (x3 : Int32) (x4 : Int32) (x5 : Int32) (t28 : Nat) (μ : mmT) (H : Heap) (locs : List Loc) (ls : Array Slot), Mm G μ H → va_S (Ah G) s.heap H locs → lv_has ls 22 [(0, .ref (gX G 5)), (1, va_rf r1), (2, va_rf r2), (3, .int x3), (4, .int x4), (5, .int x5)] → K28 r1 r2 x3 x4 x5 t28 μ → W p l e room_1 s m args below meth c H locs (941 + 2960 * t28) (6049 + 17792 * t28) Z (F0 m 28 ls [])) (r1 : Option Nat) (r2 : Option Nat) (x3 : Int32) (x4 : Int32) (x5 : Int32) (t28 : Nat) (μ : mmT) (H : Heap) (locs : List Loc) (ls : Array Slot), Mm G μ H → va_S (Ah G) s.heap H locs → lv_has ls 22 [(0, .ref (gX G 5)), (1, va_rf r1), (2, va_rf r2), (3, .int x3), (4, .int x4), (5, .int x5)] → w_L_law_b482 G K28 r1 r2 x3 x4 x5 t28 μ → W p l e room_1 s m args below meth c H locs (3901 + 2960 * t28) (23841 + 17792 * t28) Z (F0 m 482 ls []) := by
  intro K28 kK28 r1 r2 x3 x4 x5 t28 μ H locs ls hM hS hl h
  unfold w_L_law_b482 at h
  obtain ⟨ht28, h⟩ := h
  refine lv_iinc (v := (x5 + nI 1)) (lv' := [(5, .int (x5 + nI 1)), (0, .ref (gX G 5)), (1, va_rf r1), (2, va_rf r2), (3, .int x3), (4, .int x4)]) S.1 S.2.1 dL_law_482 hl (k := 5) rfl rfl (by decide) rfl (fun ls hl => ?_)
  refine lv_goto (tgt := 28) S.1 S.2.1 dL_law_485 (by decide) ?_
  refine W.widen (k := 941 + 2960 * (t28 + 1)) (n := 6049 + 17792 * (t28 + 1)) (by omega) (by omega) ?_
  exact kK28 r1 r2 x3 x4 (x5 + nI 1) (t28 + 1) μ H locs ls hM hS (lv_sub hl [1, 2, 3, 4, 5, 0] rfl) h
set_option maxRecDepth 100000 in
set_option maxHeartbeats 4000000 in
theorem cB_L_law_417 {p : Program} {l : Launch} {e : Env} {s : State} {m : MethodId} {args : Array Value} {below : List Frame} {meth : Method} {c : Code} {Z : State → Prop} {G : mgT} (hl0 : l.stackTraces = false) (S : CallFix p m c cL_law 22 s args TT RL) (hG : GK G s s.heap) (hgh : gh G = s.heap.size) (hend : ∀ (pc : Nat) (H : Heap) (ls : Array Slot), decode cL_law pc = .ok (.ireturn, 1) → W p l e room_1 s m args below meth c H [] 752906 6831448 Z (F0 m pc ls [.int 1])) : ∀ (K28 : Option Nat → Option Nat → Int32 → Int32 → Int32 → Nat → mmT → Prop) (kK28 : ∀ (r1 : Option Nat) (r2 : Option Nat) (x3 : Int32) (x4 : Int32) (x5 : Int32) (t28 : Nat) (μ : mmT) (H : Heap) (locs : List Loc) (ls : Array Slot), Mm G μ H → va_S (Ah G) s.heap H locs → lv_has ls 22 [(0, .ref (gX G 5)), (1, va_rf r1), (2, va_rf r2), (3, .int x3), (4, .int x4), (5, .int x5)] → K28 r1 r2 x3 x4 x5 t28 μ → W p l e room_1 s m args below meth c H locs (941 + 2960 * t28) (6049 + 17792 * t28) Z (F0 m 28 ls [])) (r1 : Option Nat) (r2 : Option Nat) (x3 : Int32) (x4 : Int32) (x5 : Int32) (x6 : Int64) (x19 : Int32) (s0 : Int32) (s1 : Int32) (t28 : Nat) (μ : mmT) (H : Heap) (locs : List Loc) (ls : Array Slot), Mm G μ H → va_S (Ah G) s.heap H locs → lv_has ls 22 [(0, .ref (gX G 5)), (1, va_rf r1), (2, va_rf r2), (3, .int x3), (4, .int x4), (5, .int x5), (6, .long x6), (19, .int x19)] → w_L_law_b417 G K28 r1 r2 x3 x4 x5 x6 x19 s0 s1 t28 μ → W p l e room_1 s m args below meth c H locs (1276 + 2960 * t28) (8091 + 17792 * t28) Z (F0 m 417 ls [.int s1, .int s0]) := by
  intro K28 kK28 r1 r2 x3 x4 x5 x6 x19 s0 s1 t28 μ H locs ls hM hS hl h
  unfold w_L_law_b417 at h
  obtain ⟨ht28, h⟩ := h
  refine lv_iand S.1 S.2.1 dL_law_417 ?_
  refine lv_istore (lv' := [(21, .int (s0 &&& s1)), (0, .ref (gX G 5)), (1, va_rf r1), (2, va_rf r2), (3, .int x3), (4, .int x4), (5, .int x5), (6, .long x6), (19, .int x19)]) S.1 S.2.1 dL_law_418 hl (by decide) rfl (fun ls hl => ?_)
  refine lv_iinc (v := (x4 + nI 5)) (lv' := [(4, .int (x4 + nI 5)), (21, .int (s0 &&& s1)), (0, .ref (gX G 5)), (1, va_rf r1), (2, va_rf r2), (3, .int x3), (5, .int x5), (6, .long x6), (19, .int x19)]) S.1 S.2.1 dL_law_420 hl (k := 5) rfl rfl (by decide) rfl (fun ls hl => ?_)
  refine lv_iload S.1 S.2.1 dL_law_423 (lv_at hl 1 rfl) ?_
  refine lv_if_eq (tgt := 451) S.1 S.2.1 dL_law_425 (by decide) (fun c40 => ?_) (fun c40 => ?_)
  · have h := h.1 c40
    refine W.widen (k := 181202) (n := 1089567) (by omega) (by omega) ?_
    exact cB_L_law_451 hl0 S hG hgh hend  μ H locs ls hM hS (lv_sub hl [2] rfl) h
  · have h := h.2 c40
    refine mz_aload_n (x := r1) S.1 S.2.1 dL_law_428 rfl (lv_at hl 3 rfl) ?_
    refine lv_aload_n S.1 S.2.1 dL_law_429 rfl (lv_at hl 2 rfl) ?_
    refine lv_iload S.1 S.2.1 dL_law_430 (lv_at hl 0 rfl) ?_
    refine lv_iload S.1 S.2.1 dL_law_432 (lv_at hl 6 rfl) ?_
    refine lv_iconst (v := (nI 4)) S.1 S.2.1 dL_law_434 (by decide) ?_
    refine lv_irem S.1 S.2.1 dL_law_435 (by decide) ?_
    refine lv_iconst (v := (nI 3)) S.1 S.2.1 dL_law_436 (by decide) ?_
    refine lv_icmp_ne (tgt := 444) S.1 S.2.1 dL_law_437 (by decide) (fun c42 => ?_) (fun c42 => ?_)
    · have h := h.1 c42
      refine lv_iconst (v := (nI 0)) S.1 S.2.1 dL_law_444 (by decide) ?_
      refine mz_S S hG hM hS (As := [va_rf r1, .ref (gX G 5), .int (x4 + nI 5), .int (nI 0)]) (rest := []) (c_L_isWhole hl0 h) yf_L_isWhole tw_1213 tw_1214 ⟨Nat.le_of_ble_eq_true rfl, Nat.le_of_ble_eq_true rfl⟩ ⟨(by show (1276 + 2960 * t28) + 2326 ≤ 752906; omega), (by show (8091 + 17792 * t28) + 13956 ≤ 6831448; omega)⟩ rfl hl.1 rfl (Nat.le_of_ble_eq_true rfl) dL_law_445 (fun v9 μ44 H locs hp hM hS => ?_)
      obtain ⟨u43, rfl, h⟩ := hp
      refine W.cs (cells' := 3602 + 2960 * t28) (slots' := 22047 + 17792 * t28) (by first | omega | (dsimp only; omega)) (by first | omega | (dsimp only; omega)) ?_
      refine lv_if_ne (tgt := 453) S.1 S.2.1 dL_law_448 (by decide) (fun c45 => ?_) (fun c45 => ?_)
      · have h := h.1 c45
        refine lv_iload S.1 S.2.1 dL_law_453 (lv_at hl 8 rfl) ?_
        refine lv_bipush (v := (-74)) S.1 S.2.1 dL_law_455 (by decide) ?_
        refine lv_icmp_gt (tgt := 472) S.1 S.2.1 dL_law_457 (by decide) (fun c46 => ?_) (fun c46 => ?_)
        · have h := h.1 c46
          refine lv_iinc (v := (x3 + nI 1)) (lv' := [(3, .int (x3 + nI 1)), (4, .int (x4 + nI 5)), (21, .int (s0 &&& s1)), (0, .ref (gX G 5)), (1, va_rf r1), (2, va_rf r2), (5, .int x5), (6, .long x6), (19, .int x19)]) S.1 S.2.1 dL_law_472 hl (k := 5) rfl rfl (by decide) (by simp [List.filter, mz_cat]) (fun ls hl => ?_)
          refine mz_aload_n (x := r2) S.1 S.2.1 dL_law_475 rfl (lv_at hl 5 rfl) ?_
          refine lv_iload_n S.1 S.2.1 dL_law_476 rfl (lv_at hl 0 rfl) ?_
          refine mz_aload_n (x := r1) S.1 S.2.1 dL_law_477 rfl (lv_at hl 4 rfl) ?_
          refine mz_S S hG hM hS (As := [va_rf r1]) (rest := [.int (x3 + nI 1), va_rf r2]) (c_L_sum hl0 h) yf_L_sum tw_1104 tw_1105 ⟨Nat.le_of_ble_eq_true rfl, Nat.le_of_ble_eq_true rfl⟩ ⟨(by show (3602 + 2960 * t28) + 299 ≤ 752906; omega), (by show (22047 + 17792 * t28) + 1794 ≤ 6831448; omega)⟩ rfl hl.1 rfl (by simp [mz_cat, mz_cr, mz_ci, mz_cl, mz_cf, mz_cd, mz_cn]) dL_law_478 (fun v9 μ9 H locs hp hM hS => ?_)
          obtain ⟨u47, rfl, e9, h⟩ := hp
          rw [e9] at hM
          refine W.cs (cells' := 3901 + 2960 * t28) (slots' := 23841 + 17792 * t28) (by first | omega | (dsimp only; omega)) (by first | omega | (dsimp only; omega)) ?_
          obtain ⟨a48, e49, h⟩ := h
          refine mz_o2 e49 ?_
          obtain ⟨k50, h⟩ := h
          obtain ⟨b51, h⟩ := h
          refine mz_last S hG hM hS dL_law_481 k50 b51 (fun H locs hM hS hz9 => ?_)
          refine W.widen (k := 3901 + 2960 * t28) (n := 23841 + 17792 * t28) (by omega) (by omega) ?_
          exact cB_L_law_482 hl0 S hG hgh hend K28 kK28 r1 r2 (x3 + nI 1) (x4 + nI 5) x5 t28 (sL μ44 a48 (x3 + nI 1).toNatClampNeg u47) H locs ls hM hS (lv_sub hl [3, 4, 5, 0, 1, 6] rfl) h
        · have h := h.2 c46
          refine mz_aload_n (x := r1) S.1 S.2.1 dL_law_460 rfl (lv_at hl 3 rfl) ?_
          refine mz_S S hG hM hS (As := [va_rf r1]) (rest := []) (c_L_sum hl0 h) yf_L_sum tw_1104 tw_1105 ⟨Nat.le_of_ble_eq_true rfl, Nat.le_of_ble_eq_true rfl⟩ ⟨(by show (3602 + 2960 * t28) + 299 ≤ 752906; omega), (by show (22047 + 17792 * t28) + 1794 ≤ 6831448; omega)⟩ rfl hl.1 rfl (Nat.le_of_ble_eq_true rfl) dL_law_461 (fun v9 μ9 H locs hp hM hS => ?_)
          obtain ⟨u52, rfl, e9, h⟩ := hp
          rw [e9] at hM
          refine W.cs (cells' := 3901 + 2960 * t28) (slots' := 23841 + 17792 * t28) (by first | omega | (dsimp only; omega)) (by first | omega | (dsimp only; omega)) ?_
          refine lv_lload S.1 S.2.1 dL_law_464 (lv_at hl 7 rfl) ?_
          refine W.lcmp S.1 S.2.1 dL_law_466 ?_
          refine lv_if_eq (tgt := 482) S.1 S.2.1 dL_law_467 (by decide) (fun c53 => ?_) (fun c53 => ?_)
          · have h := h.1 c53
            refine W.widen (k := 3901 + 2960 * t28) (n := 23841 + 17792 * t28) (by omega) (by omega) ?_
            exact cB_L_law_482 hl0 S hG hgh hend K28 kK28 r1 r2 x3 (x4 + nI 5) x5 t28 μ44 H locs ls hM hS (lv_sub hl [2, 3, 4, 5, 0, 6] rfl) h
          · have h := h.2 c53
            refine lv_iconst (v := (nI 0)) S.1 S.2.1 dL_law_470 (by decide) ?_
            exact h.elim
      · have h := h.2 c45
        refine W.widen (k := 181202) (n := 1089567) (by omega) (by omega) ?_
        exact cB_L_law_451 hl0 S hG hgh hend  μ44 H locs ls hM hS (lv_sub hl [2] rfl) h
    · have h := h.2 c42
      refine lv_iconst (v := (nI 1)) S.1 S.2.1 dL_law_440 (by decide) ?_
      refine lv_goto (tgt := 445) S.1 S.2.1 dL_law_441 (by decide) ?_
      refine mz_S S hG hM hS (As := [va_rf r1, .ref (gX G 5), .int (x4 + nI 5), .int (nI 1)]) (rest := []) (c_L_isWhole hl0 h) yf_L_isWhole tw_1213 tw_1214 ⟨Nat.le_of_ble_eq_true rfl, Nat.le_of_ble_eq_true rfl⟩ ⟨(by show (1276 + 2960 * t28) + 2326 ≤ 752906; omega), (by show (8091 + 17792 * t28) + 13956 ≤ 6831448; omega)⟩ rfl hl.1 rfl (Nat.le_of_ble_eq_true rfl) dL_law_445 (fun v9 μ55 H locs hp hM hS => ?_)
      obtain ⟨u54, rfl, h⟩ := hp
      refine W.cs (cells' := 3602 + 2960 * t28) (slots' := 22047 + 17792 * t28) (by first | omega | (dsimp only; omega)) (by first | omega | (dsimp only; omega)) ?_
      refine lv_if_ne (tgt := 453) S.1 S.2.1 dL_law_448 (by decide) (fun c56 => ?_) (fun c56 => ?_)
      · have h := h.1 c56
        refine lv_iload S.1 S.2.1 dL_law_453 (lv_at hl 8 rfl) ?_
        refine lv_bipush (v := (-74)) S.1 S.2.1 dL_law_455 (by decide) ?_
        refine lv_icmp_gt (tgt := 472) S.1 S.2.1 dL_law_457 (by decide) (fun c57 => ?_) (fun c57 => ?_)
        · have h := h.1 c57
          refine lv_iinc (v := (x3 + nI 1)) (lv' := [(3, .int (x3 + nI 1)), (4, .int (x4 + nI 5)), (21, .int (s0 &&& s1)), (0, .ref (gX G 5)), (1, va_rf r1), (2, va_rf r2), (5, .int x5), (6, .long x6), (19, .int x19)]) S.1 S.2.1 dL_law_472 hl (k := 5) rfl rfl (by decide) (by simp [List.filter, mz_cat]) (fun ls hl => ?_)
          refine mz_aload_n (x := r2) S.1 S.2.1 dL_law_475 rfl (lv_at hl 5 rfl) ?_
          refine lv_iload_n S.1 S.2.1 dL_law_476 rfl (lv_at hl 0 rfl) ?_
          refine mz_aload_n (x := r1) S.1 S.2.1 dL_law_477 rfl (lv_at hl 4 rfl) ?_
          refine mz_S S hG hM hS (As := [va_rf r1]) (rest := [.int (x3 + nI 1), va_rf r2]) (c_L_sum hl0 h) yf_L_sum tw_1104 tw_1105 ⟨Nat.le_of_ble_eq_true rfl, Nat.le_of_ble_eq_true rfl⟩ ⟨(by show (3602 + 2960 * t28) + 299 ≤ 752906; omega), (by show (22047 + 17792 * t28) + 1794 ≤ 6831448; omega)⟩ rfl hl.1 rfl (by simp [mz_cat, mz_cr, mz_ci, mz_cl, mz_cf, mz_cd, mz_cn]) dL_law_478 (fun v9 μ9 H locs hp hM hS => ?_)
          obtain ⟨u58, rfl, e9, h⟩ := hp
          rw [e9] at hM
          refine W.cs (cells' := 3901 + 2960 * t28) (slots' := 23841 + 17792 * t28) (by first | omega | (dsimp only; omega)) (by first | omega | (dsimp only; omega)) ?_
          obtain ⟨a59, e60, h⟩ := h
          refine mz_o2 e60 ?_
          obtain ⟨k61, h⟩ := h
          obtain ⟨b62, h⟩ := h
          refine mz_last S hG hM hS dL_law_481 k61 b62 (fun H locs hM hS hz9 => ?_)
          refine W.widen (k := 3901 + 2960 * t28) (n := 23841 + 17792 * t28) (by omega) (by omega) ?_
          exact cB_L_law_482 hl0 S hG hgh hend K28 kK28 r1 r2 (x3 + nI 1) (x4 + nI 5) x5 t28 (sL μ55 a59 (x3 + nI 1).toNatClampNeg u58) H locs ls hM hS (lv_sub hl [3, 4, 5, 0, 1, 6] rfl) h
        · have h := h.2 c57
          refine mz_aload_n (x := r1) S.1 S.2.1 dL_law_460 rfl (lv_at hl 3 rfl) ?_
          refine mz_S S hG hM hS (As := [va_rf r1]) (rest := []) (c_L_sum hl0 h) yf_L_sum tw_1104 tw_1105 ⟨Nat.le_of_ble_eq_true rfl, Nat.le_of_ble_eq_true rfl⟩ ⟨(by show (3602 + 2960 * t28) + 299 ≤ 752906; omega), (by show (22047 + 17792 * t28) + 1794 ≤ 6831448; omega)⟩ rfl hl.1 rfl (Nat.le_of_ble_eq_true rfl) dL_law_461 (fun v9 μ9 H locs hp hM hS => ?_)
          obtain ⟨u63, rfl, e9, h⟩ := hp
          rw [e9] at hM
          refine W.cs (cells' := 3901 + 2960 * t28) (slots' := 23841 + 17792 * t28) (by first | omega | (dsimp only; omega)) (by first | omega | (dsimp only; omega)) ?_
          refine lv_lload S.1 S.2.1 dL_law_464 (lv_at hl 7 rfl) ?_
          refine W.lcmp S.1 S.2.1 dL_law_466 ?_
          refine lv_if_eq (tgt := 482) S.1 S.2.1 dL_law_467 (by decide) (fun c64 => ?_) (fun c64 => ?_)
          · have h := h.1 c64
            refine W.widen (k := 3901 + 2960 * t28) (n := 23841 + 17792 * t28) (by omega) (by omega) ?_
            exact cB_L_law_482 hl0 S hG hgh hend K28 kK28 r1 r2 x3 (x4 + nI 5) x5 t28 μ55 H locs ls hM hS (lv_sub hl [2, 3, 4, 5, 0, 6] rfl) h
          · have h := h.2 c64
            refine lv_iconst (v := (nI 0)) S.1 S.2.1 dL_law_470 (by decide) ?_
            exact h.elim
      · have h := h.2 c56
        refine W.widen (k := 181202) (n := 1089567) (by omega) (by omega) ?_
        exact cB_L_law_451 hl0 S hG hgh hend  μ55 H locs ls hM hS (lv_sub hl [2] rfl) h
set_option maxRecDepth 100000 in
set_option maxHeartbeats 4000000 in
theorem cB_L_law_412 {p : Program} {l : Launch} {e : Env} {s : State} {m : MethodId} {args : Array Value} {below : List Frame} {meth : Method} {c : Code} {Z : State → Prop} {G : mgT} (hl0 : l.stackTraces = false) (S : CallFix p m c cL_law 22 s args TT RL) (hG : GK G s s.heap) (hgh : gh G = s.heap.size) (hend : ∀ (pc : Nat) (H : Heap) (ls : Array Slot), decode cL_law pc = .ok (.ireturn, 1) → W p l e room_1 s m args below meth c H [] 752906 6831448 Z (F0 m pc ls [.int 1])) : ∀ (K28 : Option Nat → Option Nat → Int32 → Int32 → Int32 → Nat → mmT → Prop) (kK28 : ∀ (r1 : Option Nat) (r2 : Option Nat) (x3 : Int32) (x4 : Int32) (x5 : Int32) (t28 : Nat) (μ : mmT) (H : Heap) (locs : List Loc) (ls : Array Slot), Mm G μ H → va_S (Ah G) s.heap H locs → lv_has ls 22 [(0, .ref (gX G 5)), (1, va_rf r1), (2, va_rf r2), (3, .int x3), (4, .int x4), (5, .int x5)] → K28 r1 r2 x3 x4 x5 t28 μ → W p l e room_1 s m args below meth c H locs (941 + 2960 * t28) (6049 + 17792 * t28) Z (F0 m 28 ls [])) (r1 : Option Nat) (r2 : Option Nat) (x3 : Int32) (x4 : Int32) (x5 : Int32) (x6 : Int64) (x19 : Int32) (s0 : Int32) (t28 : Nat) (μ : mmT) (H : Heap) (locs : List Loc) (ls : Array Slot), Mm G μ H → va_S (Ah G) s.heap H locs → lv_has ls 22 [(0, .ref (gX G 5)), (1, va_rf r1), (2, va_rf r2), (3, .int x3), (4, .int x4), (5, .int x5), (6, .long x6), (19, .int x19)] → w_L_law_b412 G K28 r1 r2 x3 x4 x5 x6 x19 s0 t28 μ → W p l e room_1 s m args below meth c H locs (1276 + 2960 * t28) (8091 + 17792 * t28) Z (F0 m 412 ls [.int s0]) := by
  intro K28 kK28 r1 r2 x3 x4 x5 x6 x19 s0 t28 μ H locs ls hM hS hl h
  unfold w_L_law_b412 at h
  obtain ⟨ht28, h⟩ := h
  refine lv_iconst (v := (nI 1)) S.1 S.2.1 dL_law_412 (by decide) ?_
  refine lv_goto (tgt := 417) S.1 S.2.1 dL_law_413 (by decide) ?_
  refine W.widen (k := 1276 + 2960 * t28) (n := 8091 + 17792 * t28) (by omega) (by omega) ?_
  exact cB_L_law_417 hl0 S hG hgh hend K28 kK28 r1 r2 x3 x4 x5 x6 x19 s0 (nI 1) t28 μ H locs ls hM hS (lv_sub hl [0, 1, 2, 3, 4, 5, 6, 7] rfl) h
set_option maxRecDepth 100000 in
set_option maxHeartbeats 4000000 in
theorem cB_L_law_374 {p : Program} {l : Launch} {e : Env} {s : State} {m : MethodId} {args : Array Value} {below : List Frame} {meth : Method} {c : Code} {Z : State → Prop} {G : mgT} (hl0 : l.stackTraces = false) (S : CallFix p m c cL_law 22 s args TT RL) (hG : GK G s s.heap) (hgh : gh G = s.heap.size) (hend : ∀ (pc : Nat) (H : Heap) (ls : Array Slot), decode cL_law pc = .ok (.ireturn, 1) → W p l e room_1 s m args below meth c H [] 752906 6831448 Z (F0 m pc ls [.int 1])) : ∀ (K28 : Option Nat → Option Nat → Int32 → Int32 → Int32 → Nat → mmT → Prop) (kK28 : ∀ (r1 : Option Nat) (r2 : Option Nat) (x3 : Int32) (x4 : Int32) (x5 : Int32) (t28 : Nat) (μ : mmT) (H : Heap) (locs : List Loc) (ls : Array Slot), Mm G μ H → va_S (Ah G) s.heap H locs → lv_has ls 22 [(0, .ref (gX G 5)), (1, va_rf r1), (2, va_rf r2), (3, .int x3), (4, .int x4), (5, .int x5)] → K28 r1 r2 x3 x4 x5 t28 μ → W p l e room_1 s m args below meth c H locs (941 + 2960 * t28) (6049 + 17792 * t28) Z (F0 m 28 ls [])) (r1 : Option Nat) (r2 : Option Nat) (x3 : Int32) (x4 : Int32) (x5 : Int32) (x6 : Int64) (x10 : Int32) (x11 : Int32) (x13 : Int32) (x14 : Int32) (x19 : Int32) (x20 : Int32) (s0 : Int32) (s1 : Int32) (t28 : Nat) (μ : mmT) (H : Heap) (locs : List Loc) (ls : Array Slot), Mm G μ H → va_S (Ah G) s.heap H locs → lv_has ls 22 [(0, .ref (gX G 5)), (1, va_rf r1), (2, va_rf r2), (3, .int x3), (4, .int x4), (5, .int x5), (6, .long x6), (10, .int x10), (11, .int x11), (13, .int x13), (14, .int x14), (19, .int x19), (20, .int x20)] → w_L_law_b374 G K28 r1 r2 x3 x4 x5 x6 x10 x11 x13 x14 x19 x20 s0 s1 t28 μ → W p l e room_1 s m args below meth c H locs (1274 + 2960 * t28) (8079 + 17792 * t28) Z (F0 m 374 ls [.int s1, .int s0]) := by
  intro K28 kK28 r1 r2 x3 x4 x5 x6 x10 x11 x13 x14 x19 x20 s0 s1 t28 μ H locs ls hM hS hl h
  unfold w_L_law_b374 at h
  obtain ⟨ht28, h⟩ := h
  refine lv_iand S.1 S.2.1 dL_law_374 ?_
  refine lv_istore (lv' := [(21, .int (s0 &&& s1)), (0, .ref (gX G 5)), (1, va_rf r1), (2, va_rf r2), (3, .int x3), (4, .int x4), (5, .int x5), (6, .long x6), (10, .int x10), (11, .int x11), (13, .int x13), (14, .int x14), (19, .int x19), (20, .int x20)]) S.1 S.2.1 dL_law_375 hl (by decide) rfl (fun ls hl => ?_)
  refine lv_iload S.1 S.2.1 dL_law_377 (lv_at hl 0 rfl) ?_
  refine lv_iload S.1 S.2.1 dL_law_379 (lv_at hl 13 rfl) ?_
  refine lv_if_eq (tgt := 412) S.1 S.2.1 dL_law_381 (by decide) (fun c39 => ?_) (fun c39 => ?_)
  · have h := h.1 c39
    refine W.widen (k := 1276 + 2960 * t28) (n := 8091 + 17792 * t28) (by omega) (by omega) ?_
    exact cB_L_law_412 hl0 S hG hgh hend K28 kK28 r1 r2 x3 x4 x5 x6 x19 (s0 &&& s1) t28 μ H locs ls hM hS (lv_sub hl [1, 2, 3, 4, 5, 6, 7, 12] rfl) h
  · have h := h.2 c39
    refine lv_iload S.1 S.2.1 dL_law_384 (lv_at hl 10 rfl) ?_
    refine lv_bipush (v := (nI 110)) S.1 S.2.1 dL_law_386 (by decide) ?_
    refine lv_icmp_ne (tgt := 412) S.1 S.2.1 dL_law_388 (by decide) (fun c65 => ?_) (fun c65 => ?_)
    · have h := h.1 c65
      refine W.widen (k := 1276 + 2960 * t28) (n := 8091 + 17792 * t28) (by omega) (by omega) ?_
      exact cB_L_law_412 hl0 S hG hgh hend K28 kK28 r1 r2 x3 x4 x5 x6 x19 (s0 &&& s1) t28 μ H locs ls hM hS (lv_sub hl [1, 2, 3, 4, 5, 6, 7, 12] rfl) h
    · have h := h.2 c65
      refine lv_iload S.1 S.2.1 dL_law_391 (lv_at hl 9 rfl) ?_
      refine lv_iload S.1 S.2.1 dL_law_393 (lv_at hl 11 rfl) ?_
      refine lv_icmp_ge (tgt := 412) S.1 S.2.1 dL_law_395 (by decide) (fun c66 => ?_) (fun c66 => ?_)
      · have h := h.1 c66
        refine W.widen (k := 1276 + 2960 * t28) (n := 8091 + 17792 * t28) (by omega) (by omega) ?_
        exact cB_L_law_412 hl0 S hG hgh hend K28 kK28 r1 r2 x3 x4 x5 x6 x19 (s0 &&& s1) t28 μ H locs ls hM hS (lv_sub hl [1, 2, 3, 4, 5, 6, 7, 12] rfl) h
      · have h := h.2 c66
        refine mz_aload_n (x := r1) S.1 S.2.1 dL_law_398 rfl (lv_at hl 2 rfl) ?_
        refine lv_iload S.1 S.2.1 dL_law_399 (lv_at hl 8 rfl) ?_
        refine mz_SH S hG hM hS (As := [va_rf r1, .int x10]) (rest := [.int (s0 &&& s1)]) (c_L_napMinutes hl0 h) yh_L_napMinutes tw_503 tw_504 ⟨Nat.le_of_ble_eq_true rfl, Nat.le_of_ble_eq_true rfl⟩ ⟨(by show (1274 + 2960 * t28) + 2 ≤ 752906; omega), (by show (8079 + 17792 * t28) + 12 ≤ 6831448; omega)⟩ rfl hl.1 rfl (Nat.le_of_ble_eq_true rfl) dL_law_401 (fun v9 μ9 H locs hp hM hS => ?_)
        obtain ⟨u67, rfl, e9, h⟩ := hp
        rw [e9] at hM
        refine W.cs (cells' := 1276 + 2960 * t28) (slots' := 8091 + 17792 * t28) (by first | omega | (dsimp only; omega)) (by first | omega | (dsimp only; omega)) ?_
        refine lv_iload S.1 S.2.1 dL_law_404 (lv_at hl 11 rfl) ?_
        refine lv_iload S.1 S.2.1 dL_law_406 (lv_at hl 9 rfl) ?_
        refine lv_isub S.1 S.2.1 dL_law_408 ?_
        refine lv_icmp_ne (tgt := 416) S.1 S.2.1 dL_law_409 (by decide) (fun c68 => ?_) (fun c68 => ?_)
        · have h := h.1 c68
          refine lv_iconst (v := (nI 0)) S.1 S.2.1 dL_law_416 (by decide) ?_
          refine W.widen (k := 1276 + 2960 * t28) (n := 8091 + 17792 * t28) (by omega) (by omega) ?_
          exact cB_L_law_417 hl0 S hG hgh hend K28 kK28 r1 r2 x3 x4 x5 x6 x19 (s0 &&& s1) (nI 0) t28 μ H locs ls hM hS (lv_sub hl [1, 2, 3, 4, 5, 6, 7, 12] rfl) h
        · have h := h.2 c68
          refine W.widen (k := 1276 + 2960 * t28) (n := 8091 + 17792 * t28) (by omega) (by omega) ?_
          exact cB_L_law_412 hl0 S hG hgh hend K28 kK28 r1 r2 x3 x4 x5 x6 x19 (s0 &&& s1) t28 μ H locs ls hM hS (lv_sub hl [1, 2, 3, 4, 5, 6, 7, 12] rfl) h
set_option maxRecDepth 100000 in
set_option maxHeartbeats 4000000 in
theorem cB_L_law_369 {p : Program} {l : Launch} {e : Env} {s : State} {m : MethodId} {args : Array Value} {below : List Frame} {meth : Method} {c : Code} {Z : State → Prop} {G : mgT} (hl0 : l.stackTraces = false) (S : CallFix p m c cL_law 22 s args TT RL) (hG : GK G s s.heap) (hgh : gh G = s.heap.size) (hend : ∀ (pc : Nat) (H : Heap) (ls : Array Slot), decode cL_law pc = .ok (.ireturn, 1) → W p l e room_1 s m args below meth c H [] 752906 6831448 Z (F0 m pc ls [.int 1])) : ∀ (K28 : Option Nat → Option Nat → Int32 → Int32 → Int32 → Nat → mmT → Prop) (kK28 : ∀ (r1 : Option Nat) (r2 : Option Nat) (x3 : Int32) (x4 : Int32) (x5 : Int32) (t28 : Nat) (μ : mmT) (H : Heap) (locs : List Loc) (ls : Array Slot), Mm G μ H → va_S (Ah G) s.heap H locs → lv_has ls 22 [(0, .ref (gX G 5)), (1, va_rf r1), (2, va_rf r2), (3, .int x3), (4, .int x4), (5, .int x5)] → K28 r1 r2 x3 x4 x5 t28 μ → W p l e room_1 s m args below meth c H locs (941 + 2960 * t28) (6049 + 17792 * t28) Z (F0 m 28 ls [])) (r1 : Option Nat) (r2 : Option Nat) (x3 : Int32) (x4 : Int32) (x5 : Int32) (x6 : Int64) (x10 : Int32) (x11 : Int32) (x13 : Int32) (x14 : Int32) (x19 : Int32) (x20 : Int32) (s0 : Int32) (t28 : Nat) (μ : mmT) (H : Heap) (locs : List Loc) (ls : Array Slot), Mm G μ H → va_S (Ah G) s.heap H locs → lv_has ls 22 [(0, .ref (gX G 5)), (1, va_rf r1), (2, va_rf r2), (3, .int x3), (4, .int x4), (5, .int x5), (6, .long x6), (10, .int x10), (11, .int x11), (13, .int x13), (14, .int x14), (19, .int x19), (20, .int x20)] → w_L_law_b369 G K28 r1 r2 x3 x4 x5 x6 x10 x11 x13 x14 x19 x20 s0 t28 μ → W p l e room_1 s m args below meth c H locs (1274 + 2960 * t28) (8079 + 17792 * t28) Z (F0 m 369 ls [.int s0]) := by
  intro K28 kK28 r1 r2 x3 x4 x5 x6 x10 x11 x13 x14 x19 x20 s0 t28 μ H locs ls hM hS hl h
  unfold w_L_law_b369 at h
  obtain ⟨ht28, h⟩ := h
  refine lv_iconst (v := (nI 1)) S.1 S.2.1 dL_law_369 (by decide) ?_
  refine lv_goto (tgt := 374) S.1 S.2.1 dL_law_370 (by decide) ?_
  refine W.widen (k := 1274 + 2960 * t28) (n := 8079 + 17792 * t28) (by omega) (by omega) ?_
  exact cB_L_law_374 hl0 S hG hgh hend K28 kK28 r1 r2 x3 x4 x5 x6 x10 x11 x13 x14 x19 x20 s0 (nI 1) t28 μ H locs ls hM hS (lv_sub hl [0, 1, 2, 3, 4, 5, 6, 7, 8, 9, 10, 11, 12] rfl) h
set_option maxRecDepth 100000 in
set_option maxHeartbeats 4000000 in
theorem cB_L_law_373 {p : Program} {l : Launch} {e : Env} {s : State} {m : MethodId} {args : Array Value} {below : List Frame} {meth : Method} {c : Code} {Z : State → Prop} {G : mgT} (hl0 : l.stackTraces = false) (S : CallFix p m c cL_law 22 s args TT RL) (hG : GK G s s.heap) (hgh : gh G = s.heap.size) (hend : ∀ (pc : Nat) (H : Heap) (ls : Array Slot), decode cL_law pc = .ok (.ireturn, 1) → W p l e room_1 s m args below meth c H [] 752906 6831448 Z (F0 m pc ls [.int 1])) : ∀ (K28 : Option Nat → Option Nat → Int32 → Int32 → Int32 → Nat → mmT → Prop) (kK28 : ∀ (r1 : Option Nat) (r2 : Option Nat) (x3 : Int32) (x4 : Int32) (x5 : Int32) (t28 : Nat) (μ : mmT) (H : Heap) (locs : List Loc) (ls : Array Slot), Mm G μ H → va_S (Ah G) s.heap H locs → lv_has ls 22 [(0, .ref (gX G 5)), (1, va_rf r1), (2, va_rf r2), (3, .int x3), (4, .int x4), (5, .int x5)] → K28 r1 r2 x3 x4 x5 t28 μ → W p l e room_1 s m args below meth c H locs (941 + 2960 * t28) (6049 + 17792 * t28) Z (F0 m 28 ls [])) (r1 : Option Nat) (r2 : Option Nat) (x3 : Int32) (x4 : Int32) (x5 : Int32) (x6 : Int64) (x10 : Int32) (x11 : Int32) (x13 : Int32) (x14 : Int32) (x19 : Int32) (x20 : Int32) (s0 : Int32) (t28 : Nat) (μ : mmT) (H : Heap) (locs : List Loc) (ls : Array Slot), Mm G μ H → va_S (Ah G) s.heap H locs → lv_has ls 22 [(0, .ref (gX G 5)), (1, va_rf r1), (2, va_rf r2), (3, .int x3), (4, .int x4), (5, .int x5), (6, .long x6), (10, .int x10), (11, .int x11), (13, .int x13), (14, .int x14), (19, .int x19), (20, .int x20)] → w_L_law_b373 G K28 r1 r2 x3 x4 x5 x6 x10 x11 x13 x14 x19 x20 s0 t28 μ → W p l e room_1 s m args below meth c H locs (1274 + 2960 * t28) (8079 + 17792 * t28) Z (F0 m 373 ls [.int s0]) := by
  intro K28 kK28 r1 r2 x3 x4 x5 x6 x10 x11 x13 x14 x19 x20 s0 t28 μ H locs ls hM hS hl h
  unfold w_L_law_b373 at h
  obtain ⟨ht28, h⟩ := h
  refine lv_iconst (v := (nI 0)) S.1 S.2.1 dL_law_373 (by decide) ?_
  refine W.widen (k := 1274 + 2960 * t28) (n := 8079 + 17792 * t28) (by omega) (by omega) ?_
  exact cB_L_law_374 hl0 S hG hgh hend K28 kK28 r1 r2 x3 x4 x5 x6 x10 x11 x13 x14 x19 x20 s0 (nI 0) t28 μ H locs ls hM hS (lv_sub hl [0, 1, 2, 3, 4, 5, 6, 7, 8, 9, 10, 11, 12] rfl) h
set_option maxRecDepth 100000 in
set_option maxHeartbeats 4000000 in
theorem cB_L_law_309 {p : Program} {l : Launch} {e : Env} {s : State} {m : MethodId} {args : Array Value} {below : List Frame} {meth : Method} {c : Code} {Z : State → Prop} {G : mgT} (hl0 : l.stackTraces = false) (S : CallFix p m c cL_law 22 s args TT RL) (hG : GK G s s.heap) (hgh : gh G = s.heap.size) (hend : ∀ (pc : Nat) (H : Heap) (ls : Array Slot), decode cL_law pc = .ok (.ireturn, 1) → W p l e room_1 s m args below meth c H [] 752906 6831448 Z (F0 m pc ls [.int 1])) : ∀ (K28 : Option Nat → Option Nat → Int32 → Int32 → Int32 → Nat → mmT → Prop) (kK28 : ∀ (r1 : Option Nat) (r2 : Option Nat) (x3 : Int32) (x4 : Int32) (x5 : Int32) (t28 : Nat) (μ : mmT) (H : Heap) (locs : List Loc) (ls : Array Slot), Mm G μ H → va_S (Ah G) s.heap H locs → lv_has ls 22 [(0, .ref (gX G 5)), (1, va_rf r1), (2, va_rf r2), (3, .int x3), (4, .int x4), (5, .int x5)] → K28 r1 r2 x3 x4 x5 t28 μ → W p l e room_1 s m args below meth c H locs (941 + 2960 * t28) (6049 + 17792 * t28) Z (F0 m 28 ls [])) (r1 : Option Nat) (r2 : Option Nat) (x3 : Int32) (x4 : Int32) (x5 : Int32) (x6 : Int64) (x10 : Int32) (x11 : Int32) (x12 : Int32) (x13 : Int32) (x14 : Int32) (x19 : Int32) (x20 : Int32) (s0 : Int32) (t28 : Nat) (μ : mmT) (H : Heap) (locs : List Loc) (ls : Array Slot), Mm G μ H → va_S (Ah G) s.heap H locs → lv_has ls 22 [(0, .ref (gX G 5)), (1, va_rf r1), (2, va_rf r2), (3, .int x3), (4, .int x4), (5, .int x5), (6, .long x6), (10, .int x10), (11, .int x11), (12, .int x12), (13, .int x13), (14, .int x14), (19, .int x19), (20, .int x20)] → w_L_law_b309 G K28 r1 r2 x3 x4 x5 x6 x10 x11 x12 x13 x14 x19 x20 s0 t28 μ → W p l e room_1 s m args below meth c H locs (1271 + 2960 * t28) (8061 + 17792 * t28) Z (F0 m 309 ls [.int s0]) := by
  intro K28 kK28 r1 r2 x3 x4 x5 x6 x10 x11 x12 x13 x14 x19 x20 s0 t28 μ H locs ls hM hS hl h
  unfold w_L_law_b309 at h
  obtain ⟨ht28, h⟩ := h
  refine lv_istore (lv' := [(21, .int s0), (0, .ref (gX G 5)), (1, va_rf r1), (2, va_rf r2), (3, .int x3), (4, .int x4), (5, .int x5), (6, .long x6), (10, .int x10), (11, .int x11), (12, .int x12), (13, .int x13), (14, .int x14), (19, .int x19), (20, .int x20)]) S.1 S.2.1 dL_law_309 hl (by decide) rfl (fun ls hl => ?_)
  refine lv_iload S.1 S.2.1 dL_law_311 (lv_at hl 0 rfl) ?_
  refine lv_iload S.1 S.2.1 dL_law_313 (lv_at hl 14 rfl) ?_
  refine lv_if_eq (tgt := 369) S.1 S.2.1 dL_law_315 (by decide) (fun c38 => ?_) (fun c38 => ?_)
  · have h := h.1 c38
    refine W.widen (k := 1274 + 2960 * t28) (n := 8079 + 17792 * t28) (by omega) (by omega) ?_
    exact cB_L_law_369 hl0 S hG hgh hend K28 kK28 r1 r2 x3 x4 x5 x6 x10 x11 x13 x14 x19 x20 s0 t28 μ H locs ls hM hS (lv_sub hl [1, 2, 3, 4, 5, 6, 7, 8, 9, 11, 12, 13, 14] rfl) h
  · have h := h.2 c38
    refine lv_iload S.1 S.2.1 dL_law_318 (lv_at hl 10 rfl) ?_
    refine lv_if_lt (tgt := 369) S.1 S.2.1 dL_law_320 (by decide) (fun c69 => ?_) (fun c69 => ?_)
    · have h := h.1 c69
      refine W.widen (k := 1274 + 2960 * t28) (n := 8079 + 17792 * t28) (by omega) (by omega) ?_
      exact cB_L_law_369 hl0 S hG hgh hend K28 kK28 r1 r2 x3 x4 x5 x6 x10 x11 x13 x14 x19 x20 s0 t28 μ H locs ls hM hS (lv_sub hl [1, 2, 3, 4, 5, 6, 7, 8, 9, 11, 12, 13, 14] rfl) h
    · have h := h.2 c69
      refine lv_iload S.1 S.2.1 dL_law_323 (lv_at hl 10 rfl) ?_
      refine lv_iload S.1 S.2.1 dL_law_325 (lv_at hl 9 rfl) ?_
      refine lv_icmp_gt (tgt := 344) S.1 S.2.1 dL_law_327 (by decide) (fun c70 => ?_) (fun c70 => ?_)
      · have h := h.1 c70
        refine mz_aload_n (x := r1) S.1 S.2.1 dL_law_344 rfl (lv_at hl 2 rfl) ?_
        refine lv_iload S.1 S.2.1 dL_law_345 (lv_at hl 8 rfl) ?_
        refine mz_SH S hG hM hS (As := [va_rf r1, .int x10]) (rest := [.int s0]) (c_L_status hl0 h) yh_L_status tw_483 tw_484 ⟨Nat.le_of_ble_eq_true rfl, Nat.le_of_ble_eq_true rfl⟩ ⟨(by show (1271 + 2960 * t28) + 1 ≤ 752906; omega), (by show (8061 + 17792 * t28) + 6 ≤ 6831448; omega)⟩ rfl hl.1 rfl (Nat.le_of_ble_eq_true rfl) dL_law_347 (fun v9 μ9 H locs hp hM hS => ?_)
        obtain ⟨u71, rfl, e9, h⟩ := hp
        rw [e9] at hM
        refine W.cs (cells' := 1272 + 2960 * t28) (slots' := 8067 + 17792 * t28) (by first | omega | (dsimp only; omega)) (by first | omega | (dsimp only; omega)) ?_
        refine lv_bipush (v := (nI 100)) S.1 S.2.1 dL_law_350 (by decide) ?_
        refine lv_icmp_eq (tgt := 373) S.1 S.2.1 dL_law_352 (by decide) (fun c72 => ?_) (fun c72 => ?_)
        · have h := h.1 c72
          refine W.widen (k := 1274 + 2960 * t28) (n := 8079 + 17792 * t28) (by omega) (by omega) ?_
          exact cB_L_law_373 hl0 S hG hgh hend K28 kK28 r1 r2 x3 x4 x5 x6 x10 x11 x13 x14 x19 x20 s0 t28 μ H locs ls hM hS (lv_sub hl [1, 2, 3, 4, 5, 6, 7, 8, 9, 11, 12, 13, 14] rfl) h
        · have h := h.2 c72
          refine mz_aload_n (x := r1) S.1 S.2.1 dL_law_355 rfl (lv_at hl 2 rfl) ?_
          refine lv_iload S.1 S.2.1 dL_law_356 (lv_at hl 8 rfl) ?_
          refine mz_SH S hG hM hS (As := [va_rf r1, .int x10]) (rest := [.int s0]) (c_L_minutesUntilDelivered hl0 h) yh_L_minutesUntilDelivered tw_527 tw_528 ⟨Nat.le_of_ble_eq_true rfl, Nat.le_of_ble_eq_true rfl⟩ ⟨(by show (1272 + 2960 * t28) + 2 ≤ 752906; omega), (by show (8067 + 17792 * t28) + 12 ≤ 6831448; omega)⟩ rfl hl.1 rfl (Nat.le_of_ble_eq_true rfl) dL_law_358 (fun v9 μ74 H locs hp hM hS => ?_)
          obtain ⟨u73, rfl, h⟩ := hp
          refine W.cs (cells' := 1274 + 2960 * t28) (slots' := 8079 + 17792 * t28) (by first | omega | (dsimp only; omega)) (by first | omega | (dsimp only; omega)) ?_
          refine lv_iload S.1 S.2.1 dL_law_361 (lv_at hl 10 rfl) ?_
          refine lv_iload S.1 S.2.1 dL_law_363 (lv_at hl 9 rfl) ?_
          refine lv_isub S.1 S.2.1 dL_law_365 ?_
          refine lv_icmp_ne (tgt := 373) S.1 S.2.1 dL_law_366 (by decide) (fun c75 => ?_) (fun c75 => ?_)
          · have h := h.1 c75
            refine W.widen (k := 1274 + 2960 * t28) (n := 8079 + 17792 * t28) (by omega) (by omega) ?_
            exact cB_L_law_373 hl0 S hG hgh hend K28 kK28 r1 r2 x3 x4 x5 x6 x10 x11 x13 x14 x19 x20 s0 t28 μ74 H locs ls hM hS (lv_sub hl [1, 2, 3, 4, 5, 6, 7, 8, 9, 11, 12, 13, 14] rfl) h
          · have h := h.2 c75
            refine W.widen (k := 1274 + 2960 * t28) (n := 8079 + 17792 * t28) (by omega) (by omega) ?_
            exact cB_L_law_369 hl0 S hG hgh hend K28 kK28 r1 r2 x3 x4 x5 x6 x10 x11 x13 x14 x19 x20 s0 t28 μ74 H locs ls hM hS (lv_sub hl [1, 2, 3, 4, 5, 6, 7, 8, 9, 11, 12, 13, 14] rfl) h
      · have h := h.2 c70
        refine mz_aload_n (x := r1) S.1 S.2.1 dL_law_330 rfl (lv_at hl 2 rfl) ?_
        refine lv_iload S.1 S.2.1 dL_law_331 (lv_at hl 8 rfl) ?_
        refine mz_SH S hG hM hS (As := [va_rf r1, .int x10]) (rest := [.int s0]) (c_L_status hl0 h) yh_L_status tw_483 tw_484 ⟨Nat.le_of_ble_eq_true rfl, Nat.le_of_ble_eq_true rfl⟩ ⟨(by show (1271 + 2960 * t28) + 1 ≤ 752906; omega), (by show (8061 + 17792 * t28) + 6 ≤ 6831448; omega)⟩ rfl hl.1 rfl (Nat.le_of_ble_eq_true rfl) dL_law_333 (fun v9 μ9 H locs hp hM hS => ?_)
        obtain ⟨u76, rfl, e9, h⟩ := hp
        rw [e9] at hM
        refine W.cs (cells' := 1272 + 2960 * t28) (slots' := 8067 + 17792 * t28) (by first | omega | (dsimp only; omega)) (by first | omega | (dsimp only; omega)) ?_
        refine lv_bipush (v := (nI 100)) S.1 S.2.1 dL_law_336 (by decide) ?_
        refine lv_icmp_ne (tgt := 373) S.1 S.2.1 dL_law_338 (by decide) (fun c77 => ?_) (fun c77 => ?_)
        · have h := h.1 c77
          refine W.widen (k := 1274 + 2960 * t28) (n := 8079 + 17792 * t28) (by omega) (by omega) ?_
          exact cB_L_law_373 hl0 S hG hgh hend K28 kK28 r1 r2 x3 x4 x5 x6 x10 x11 x13 x14 x19 x20 s0 t28 μ H locs ls hM hS (lv_sub hl [1, 2, 3, 4, 5, 6, 7, 8, 9, 11, 12, 13, 14] rfl) h
        · have h := h.2 c77
          refine lv_goto (tgt := 369) S.1 S.2.1 dL_law_341 (by decide) ?_
          refine W.widen (k := 1274 + 2960 * t28) (n := 8079 + 17792 * t28) (by omega) (by omega) ?_
          exact cB_L_law_369 hl0 S hG hgh hend K28 kK28 r1 r2 x3 x4 x5 x6 x10 x11 x13 x14 x19 x20 s0 t28 μ H locs ls hM hS (lv_sub hl [1, 2, 3, 4, 5, 6, 7, 8, 9, 11, 12, 13, 14] rfl) h
set_option maxRecDepth 100000 in
set_option maxHeartbeats 4000000 in
theorem cB_L_law_304 {p : Program} {l : Launch} {e : Env} {s : State} {m : MethodId} {args : Array Value} {below : List Frame} {meth : Method} {c : Code} {Z : State → Prop} {G : mgT} (hl0 : l.stackTraces = false) (S : CallFix p m c cL_law 22 s args TT RL) (hG : GK G s s.heap) (hgh : gh G = s.heap.size) (hend : ∀ (pc : Nat) (H : Heap) (ls : Array Slot), decode cL_law pc = .ok (.ireturn, 1) → W p l e room_1 s m args below meth c H [] 752906 6831448 Z (F0 m pc ls [.int 1])) : ∀ (K28 : Option Nat → Option Nat → Int32 → Int32 → Int32 → Nat → mmT → Prop) (kK28 : ∀ (r1 : Option Nat) (r2 : Option Nat) (x3 : Int32) (x4 : Int32) (x5 : Int32) (t28 : Nat) (μ : mmT) (H : Heap) (locs : List Loc) (ls : Array Slot), Mm G μ H → va_S (Ah G) s.heap H locs → lv_has ls 22 [(0, .ref (gX G 5)), (1, va_rf r1), (2, va_rf r2), (3, .int x3), (4, .int x4), (5, .int x5)] → K28 r1 r2 x3 x4 x5 t28 μ → W p l e room_1 s m args below meth c H locs (941 + 2960 * t28) (6049 + 17792 * t28) Z (F0 m 28 ls [])) (r1 : Option Nat) (r2 : Option Nat) (x3 : Int32) (x4 : Int32) (x5 : Int32) (x6 : Int64) (x10 : Int32) (x11 : Int32) (x12 : Int32) (x13 : Int32) (x14 : Int32) (x19 : Int32) (x20 : Int32) (t28 : Nat) (μ : mmT) (H : Heap) (locs : List Loc) (ls : Array Slot), Mm G μ H → va_S (Ah G) s.heap H locs → lv_has ls 22 [(0, .ref (gX G 5)), (1, va_rf r1), (2, va_rf r2), (3, .int x3), (4, .int x4), (5, .int x5), (6, .long x6), (10, .int x10), (11, .int x11), (12, .int x12), (13, .int x13), (14, .int x14), (19, .int x19), (20, .int x20)] → w_L_law_b304 G K28 r1 r2 x3 x4 x5 x6 x10 x11 x12 x13 x14 x19 x20 t28 μ → W p l e room_1 s m args below meth c H locs (1271 + 2960 * t28) (8061 + 17792 * t28) Z (F0 m 304 ls []) := by
  intro K28 kK28 r1 r2 x3 x4 x5 x6 x10 x11 x12 x13 x14 x19 x20 t28 μ H locs ls hM hS hl h
  unfold w_L_law_b304 at h
  obtain ⟨ht28, h⟩ := h
  refine lv_iconst (v := (nI 1)) S.1 S.2.1 dL_law_304 (by decide) ?_
  refine lv_goto (tgt := 309) S.1 S.2.1 dL_law_305 (by decide) ?_
  refine W.widen (k := 1271 + 2960 * t28) (n := 8061 + 17792 * t28) (by omega) (by omega) ?_
  exact cB_L_law_309 hl0 S hG hgh hend K28 kK28 r1 r2 x3 x4 x5 x6 x10 x11 x12 x13 x14 x19 x20 (nI 1) t28 μ H locs ls hM hS (lv_sub hl [0, 1, 2, 3, 4, 5, 6, 7, 8, 9, 10, 11, 12, 13] rfl) h
set_option maxRecDepth 100000 in
set_option maxHeartbeats 4000000 in
theorem cB_L_law_308 {p : Program} {l : Launch} {e : Env} {s : State} {m : MethodId} {args : Array Value} {below : List Frame} {meth : Method} {c : Code} {Z : State → Prop} {G : mgT} (hl0 : l.stackTraces = false) (S : CallFix p m c cL_law 22 s args TT RL) (hG : GK G s s.heap) (hgh : gh G = s.heap.size) (hend : ∀ (pc : Nat) (H : Heap) (ls : Array Slot), decode cL_law pc = .ok (.ireturn, 1) → W p l e room_1 s m args below meth c H [] 752906 6831448 Z (F0 m pc ls [.int 1])) : ∀ (K28 : Option Nat → Option Nat → Int32 → Int32 → Int32 → Nat → mmT → Prop) (kK28 : ∀ (r1 : Option Nat) (r2 : Option Nat) (x3 : Int32) (x4 : Int32) (x5 : Int32) (t28 : Nat) (μ : mmT) (H : Heap) (locs : List Loc) (ls : Array Slot), Mm G μ H → va_S (Ah G) s.heap H locs → lv_has ls 22 [(0, .ref (gX G 5)), (1, va_rf r1), (2, va_rf r2), (3, .int x3), (4, .int x4), (5, .int x5)] → K28 r1 r2 x3 x4 x5 t28 μ → W p l e room_1 s m args below meth c H locs (941 + 2960 * t28) (6049 + 17792 * t28) Z (F0 m 28 ls [])) (r1 : Option Nat) (r2 : Option Nat) (x3 : Int32) (x4 : Int32) (x5 : Int32) (x6 : Int64) (x10 : Int32) (x11 : Int32) (x12 : Int32) (x13 : Int32) (x14 : Int32) (x19 : Int32) (x20 : Int32) (t28 : Nat) (μ : mmT) (H : Heap) (locs : List Loc) (ls : Array Slot), Mm G μ H → va_S (Ah G) s.heap H locs → lv_has ls 22 [(0, .ref (gX G 5)), (1, va_rf r1), (2, va_rf r2), (3, .int x3), (4, .int x4), (5, .int x5), (6, .long x6), (10, .int x10), (11, .int x11), (12, .int x12), (13, .int x13), (14, .int x14), (19, .int x19), (20, .int x20)] → w_L_law_b308 G K28 r1 r2 x3 x4 x5 x6 x10 x11 x12 x13 x14 x19 x20 t28 μ → W p l e room_1 s m args below meth c H locs (1271 + 2960 * t28) (8061 + 17792 * t28) Z (F0 m 308 ls []) := by
  intro K28 kK28 r1 r2 x3 x4 x5 x6 x10 x11 x12 x13 x14 x19 x20 t28 μ H locs ls hM hS hl h
  unfold w_L_law_b308 at h
  obtain ⟨ht28, h⟩ := h
  refine lv_iconst (v := (nI 0)) S.1 S.2.1 dL_law_308 (by decide) ?_
  refine W.widen (k := 1271 + 2960 * t28) (n := 8061 + 17792 * t28) (by omega) (by omega) ?_
  exact cB_L_law_309 hl0 S hG hgh hend K28 kK28 r1 r2 x3 x4 x5 x6 x10 x11 x12 x13 x14 x19 x20 (nI 0) t28 μ H locs ls hM hS (lv_sub hl [0, 1, 2, 3, 4, 5, 6, 7, 8, 9, 10, 11, 12, 13] rfl) h
set_option maxRecDepth 100000 in
set_option maxHeartbeats 4000000 in
theorem cB_L_law_239 {p : Program} {l : Launch} {e : Env} {s : State} {m : MethodId} {args : Array Value} {below : List Frame} {meth : Method} {c : Code} {Z : State → Prop} {G : mgT} (hl0 : l.stackTraces = false) (S : CallFix p m c cL_law 22 s args TT RL) (hG : GK G s s.heap) (hgh : gh G = s.heap.size) (hend : ∀ (pc : Nat) (H : Heap) (ls : Array Slot), decode cL_law pc = .ok (.ireturn, 1) → W p l e room_1 s m args below meth c H [] 752906 6831448 Z (F0 m pc ls [.int 1])) : ∀ (K28 : Option Nat → Option Nat → Int32 → Int32 → Int32 → Nat → mmT → Prop) (kK28 : ∀ (r1 : Option Nat) (r2 : Option Nat) (x3 : Int32) (x4 : Int32) (x5 : Int32) (t28 : Nat) (μ : mmT) (H : Heap) (locs : List Loc) (ls : Array Slot), Mm G μ H → va_S (Ah G) s.heap H locs → lv_has ls 22 [(0, .ref (gX G 5)), (1, va_rf r1), (2, va_rf r2), (3, .int x3), (4, .int x4), (5, .int x5)] → K28 r1 r2 x3 x4 x5 t28 μ → W p l e room_1 s m args below meth c H locs (941 + 2960 * t28) (6049 + 17792 * t28) Z (F0 m 28 ls [])) (r1 : Option Nat) (r2 : Option Nat) (x3 : Int32) (x4 : Int32) (x5 : Int32) (x6 : Int64) (x9 : Int32) (x10 : Int32) (x11 : Int32) (x12 : Int32) (x13 : Int32) (x14 : Int32) (x15 : Int32) (x16 : Int32) (x17 : Int32) (x18 : Int32) (x19 : Int32) (s0 : Int32) (t28 : Nat) (μ : mmT) (H : Heap) (locs : List Loc) (ls : Array Slot), Mm G μ H → va_S (Ah G) s.heap H locs → lv_has ls 22 [(0, .ref (gX G 5)), (1, va_rf r1), (2, va_rf r2), (3, .int x3), (4, .int x4), (5, .int x5), (6, .long x6), (9, .int x9), (10, .int x10), (11, .int x11), (12, .int x12), (13, .int x13), (14, .int x14), (15, .int x15), (16, .int x16), (17, .int x17), (18, .int x18), (19, .int x19)] → w_L_law_b239 G K28 r1 r2 x3 x4 x5 x6 x9 x10 x11 x12 x13 x14 x15 x16 x17 x18 x19 s0 t28 μ → W p l e room_1 s m args below meth c H locs (1271 + 2960 * t28) (8061 + 17792 * t28) Z (F0 m 239 ls [.int s0]) := by
  intro K28 kK28 r1 r2 x3 x4 x5 x6 x9 x10 x11 x12 x13 x14 x15 x16 x17 x18 x19 s0 t28 μ H locs ls hM hS hl h
  unfold w_L_law_b239 at h
  obtain ⟨ht28, h⟩ := h
  refine lv_istore (lv' := [(20, .int s0), (0, .ref (gX G 5)), (1, va_rf r1), (2, va_rf r2), (3, .int x3), (4, .int x4), (5, .int x5), (6, .long x6), (9, .int x9), (10, .int x10), (11, .int x11), (12, .int x12), (13, .int x13), (14, .int x14), (15, .int x15), (16, .int x16), (17, .int x17), (18, .int x18), (19, .int x19)]) S.1 S.2.1 dL_law_239 hl (by decide) rfl (fun ls hl => ?_)
  refine lv_iload S.1 S.2.1 dL_law_241 (lv_at hl 0 rfl) ?_
  refine lv_if_eq (tgt := 304) S.1 S.2.1 dL_law_243 (by decide) (fun c37 => ?_) (fun c37 => ?_)
  · have h := h.1 c37
    refine W.widen (k := 1271 + 2960 * t28) (n := 8061 + 17792 * t28) (by omega) (by omega) ?_
    exact cB_L_law_304 hl0 S hG hgh hend K28 kK28 r1 r2 x3 x4 x5 x6 x10 x11 x12 x13 x14 x19 s0 t28 μ H locs ls hM hS (lv_sub hl [1, 2, 3, 4, 5, 6, 7, 9, 10, 11, 12, 13, 18, 0] rfl) h
  · have h := h.2 c37
    refine mz_aload_n (x := r1) S.1 S.2.1 dL_law_246 rfl (lv_at hl 2 rfl) ?_
    obtain ⟨a78, e79, h⟩ := h
    refine mz_o0 e79 ?_
    obtain ⟨k80, h⟩ := h
    refine mz_V S hG hM hS cf_9 k80 (As := []) (rest := []) (c_X10_time h) yf_X10_time tw_378 tw_379 tw_380 ⟨Nat.le_of_ble_eq_true rfl, Nat.le_of_ble_eq_true rfl⟩ ⟨(by show (1271 + 2960 * t28) + 0 ≤ 752906; omega), (by show (8061 + 17792 * t28) + 0 ≤ 6831448; omega)⟩ rfl hl.1 rfl (Nat.le_of_ble_eq_true rfl) dL_law_247 (fun v9 μ9 H locs hp hM hS => ?_)
    obtain ⟨u81, rfl, e9, h⟩ := hp
    rw [e9] at hM
    refine W.cs (cells' := 1271 + 2960 * t28) (slots' := 8061 + 17792 * t28) (by first | omega | (dsimp only; omega)) (by first | omega | (dsimp only; omega)) ?_
    refine lv_iload S.1 S.2.1 dL_law_250 (lv_at hl 15 rfl) ?_
    refine lv_iload S.1 S.2.1 dL_law_252 (lv_at hl 10 rfl) ?_
    refine lv_iadd S.1 S.2.1 dL_law_254 ?_
    refine lv_icmp_ne (tgt := 308) S.1 S.2.1 dL_law_255 (by decide) (fun c82 => ?_) (fun c82 => ?_)
    · have h := h.1 c82
      refine W.widen (k := 1271 + 2960 * t28) (n := 8061 + 17792 * t28) (by omega) (by omega) ?_
      exact cB_L_law_308 hl0 S hG hgh hend K28 kK28 r1 r2 x3 x4 x5 x6 x10 x11 x12 x13 x14 x19 s0 t28 μ H locs ls hM hS (lv_sub hl [1, 2, 3, 4, 5, 6, 7, 9, 10, 11, 12, 13, 18, 0] rfl) h
    · have h := h.2 c82
      refine mz_aload_n (x := r1) S.1 S.2.1 dL_law_258 rfl (lv_at hl 2 rfl) ?_
      refine mz_o0 e79 ?_
      refine mz_V S hG hM hS cf_9 k80 (As := []) (rest := []) (c_X10_deliveredTotal h) yf_X10_deliveredTotal tw_382 tw_383 tw_384 ⟨Nat.le_of_ble_eq_true rfl, Nat.le_of_ble_eq_true rfl⟩ ⟨(by show (1271 + 2960 * t28) + 0 ≤ 752906; omega), (by show (8061 + 17792 * t28) + 0 ≤ 6831448; omega)⟩ rfl hl.1 rfl (Nat.le_of_ble_eq_true rfl) dL_law_259 (fun v9 μ9 H locs hp hM hS => ?_)
      obtain ⟨u83, rfl, e9, h⟩ := hp
      rw [e9] at hM
      refine W.cs (cells' := 1271 + 2960 * t28) (slots' := 8061 + 17792 * t28) (by first | omega | (dsimp only; omega)) (by first | omega | (dsimp only; omega)) ?_
      refine lv_iload S.1 S.2.1 dL_law_262 (lv_at hl 14 rfl) ?_
      refine lv_iload S.1 S.2.1 dL_law_264 (lv_at hl 18 rfl) ?_
      refine lv_iadd S.1 S.2.1 dL_law_266 ?_
      refine lv_icmp_ne (tgt := 308) S.1 S.2.1 dL_law_267 (by decide) (fun c84 => ?_) (fun c84 => ?_)
      · have h := h.1 c84
        refine W.widen (k := 1271 + 2960 * t28) (n := 8061 + 17792 * t28) (by omega) (by omega) ?_
        exact cB_L_law_308 hl0 S hG hgh hend K28 kK28 r1 r2 x3 x4 x5 x6 x10 x11 x12 x13 x14 x19 s0 t28 μ H locs ls hM hS (lv_sub hl [1, 2, 3, 4, 5, 6, 7, 9, 10, 11, 12, 13, 18, 0] rfl) h
      · have h := h.2 c84
        refine mz_aload_n (x := r1) S.1 S.2.1 dL_law_270 rfl (lv_at hl 2 rfl) ?_
        refine mz_o0 e79 ?_
        refine mz_V S hG hM hS cf_9 k80 (As := []) (rest := []) (c_X10_messageCount h) yf_X10_messageCount tw_374 tw_375 tw_376 ⟨Nat.le_of_ble_eq_true rfl, Nat.le_of_ble_eq_true rfl⟩ ⟨(by show (1271 + 2960 * t28) + 0 ≤ 752906; omega), (by show (8061 + 17792 * t28) + 0 ≤ 6831448; omega)⟩ rfl hl.1 rfl (Nat.le_of_ble_eq_true rfl) dL_law_271 (fun v9 μ9 H locs hp hM hS => ?_)
        obtain ⟨u85, rfl, e9, h⟩ := hp
        rw [e9] at hM
        refine W.cs (cells' := 1271 + 2960 * t28) (slots' := 8061 + 17792 * t28) (by first | omega | (dsimp only; omega)) (by first | omega | (dsimp only; omega)) ?_
        refine lv_iload S.1 S.2.1 dL_law_274 (lv_at hl 8 rfl) ?_
        refine mz_aload_n (x := r1) S.1 S.2.1 dL_law_276 rfl (lv_at hl 2 rfl) ?_
        refine mz_o0 e79 ?_
        refine mz_V S hG hM hS cf_9 k80 (As := []) (rest := [.int x9, .int u85]) (c_X10_duplicateTotal h) yf_X10_duplicateTotal tw_386 tw_387 tw_388 ⟨Nat.le_of_ble_eq_true rfl, Nat.le_of_ble_eq_true rfl⟩ ⟨(by show (1271 + 2960 * t28) + 0 ≤ 752906; omega), (by show (8061 + 17792 * t28) + 0 ≤ 6831448; omega)⟩ rfl hl.1 rfl (Nat.le_of_ble_eq_true rfl) dL_law_277 (fun v9 μ9 H locs hp hM hS => ?_)
        obtain ⟨u86, rfl, e9, h⟩ := hp
        rw [e9] at hM
        refine W.cs (cells' := 1271 + 2960 * t28) (slots' := 8061 + 17792 * t28) (by first | omega | (dsimp only; omega)) (by first | omega | (dsimp only; omega)) ?_
        refine mz_aload_n (x := r1) S.1 S.2.1 dL_law_280 rfl (lv_at hl 2 rfl) ?_
        refine mz_o0 e79 ?_
        refine mz_V S hG hM hS cf_9 k80 (As := []) (rest := [.int u86, .int x9, .int u85]) (c_X10_failedTotal h) yf_X10_failedTotal tw_390 tw_391 tw_392 ⟨Nat.le_of_ble_eq_true rfl, Nat.le_of_ble_eq_true rfl⟩ ⟨(by show (1271 + 2960 * t28) + 0 ≤ 752906; omega), (by show (8061 + 17792 * t28) + 0 ≤ 6831448; omega)⟩ rfl hl.1 rfl (Nat.le_of_ble_eq_true rfl) dL_law_281 (fun v9 μ9 H locs hp hM hS => ?_)
        obtain ⟨u87, rfl, e9, h⟩ := hp
        rw [e9] at hM
        refine W.cs (cells' := 1271 + 2960 * t28) (slots' := 8061 + 17792 * t28) (by first | omega | (dsimp only; omega)) (by first | omega | (dsimp only; omega)) ?_
        refine lv_iadd S.1 S.2.1 dL_law_284 ?_
        refine lv_iload S.1 S.2.1 dL_law_285 (lv_at hl 17 rfl) ?_
        refine lv_isub S.1 S.2.1 dL_law_287 ?_
        refine lv_isub S.1 S.2.1 dL_law_288 ?_
        refine lv_icmp_ne (tgt := 308) S.1 S.2.1 dL_law_289 (by decide) (fun c88 => ?_) (fun c88 => ?_)
        · have h := h.1 c88
          refine W.widen (k := 1271 + 2960 * t28) (n := 8061 + 17792 * t28) (by omega) (by omega) ?_
          exact cB_L_law_308 hl0 S hG hgh hend K28 kK28 r1 r2 x3 x4 x5 x6 x10 x11 x12 x13 x14 x19 s0 t28 μ H locs ls hM hS (lv_sub hl [1, 2, 3, 4, 5, 6, 7, 9, 10, 11, 12, 13, 18, 0] rfl) h
        · have h := h.2 c88
          refine mz_aload_n (x := r1) S.1 S.2.1 dL_law_292 rfl (lv_at hl 2 rfl) ?_
          refine mz_o0 e79 ?_
          refine mz_V S hG hM hS cf_9 k80 (As := []) (rest := []) (c_X10_arrivalTotal h) yf_X10_arrivalTotal tw_394 tw_395 tw_396 ⟨Nat.le_of_ble_eq_true rfl, Nat.le_of_ble_eq_true rfl⟩ ⟨(by show (1271 + 2960 * t28) + 0 ≤ 752906; omega), (by show (8061 + 17792 * t28) + 0 ≤ 6831448; omega)⟩ rfl hl.1 rfl (Nat.le_of_ble_eq_true rfl) dL_law_293 (fun v9 μ9 H locs hp hM hS => ?_)
          obtain ⟨u89, rfl, e9, h⟩ := hp
          rw [e9] at hM
          refine W.cs (cells' := 1271 + 2960 * t28) (slots' := 8061 + 17792 * t28) (by first | omega | (dsimp only; omega)) (by first | omega | (dsimp only; omega)) ?_
          refine lv_iload S.1 S.2.1 dL_law_296 (lv_at hl 16 rfl) ?_
          refine lv_iload S.1 S.2.1 dL_law_298 (lv_at hl 18 rfl) ?_
          refine lv_iadd S.1 S.2.1 dL_law_300 ?_
          refine lv_icmp_lt (tgt := 308) S.1 S.2.1 dL_law_301 (by decide) (fun c90 => ?_) (fun c90 => ?_)
          · have h := h.1 c90
            refine W.widen (k := 1271 + 2960 * t28) (n := 8061 + 17792 * t28) (by omega) (by omega) ?_
            exact cB_L_law_308 hl0 S hG hgh hend K28 kK28 r1 r2 x3 x4 x5 x6 x10 x11 x12 x13 x14 x19 s0 t28 μ H locs ls hM hS (lv_sub hl [1, 2, 3, 4, 5, 6, 7, 9, 10, 11, 12, 13, 18, 0] rfl) h
          · have h := h.2 c90
            refine W.widen (k := 1271 + 2960 * t28) (n := 8061 + 17792 * t28) (by omega) (by omega) ?_
            exact cB_L_law_304 hl0 S hG hgh hend K28 kK28 r1 r2 x3 x4 x5 x6 x10 x11 x12 x13 x14 x19 s0 t28 μ H locs ls hM hS (lv_sub hl [1, 2, 3, 4, 5, 6, 7, 9, 10, 11, 12, 13, 18, 0] rfl) h
set_option maxRecDepth 100000 in
set_option maxHeartbeats 4000000 in
theorem cB_L_law_238 {p : Program} {l : Launch} {e : Env} {s : State} {m : MethodId} {args : Array Value} {below : List Frame} {meth : Method} {c : Code} {Z : State → Prop} {G : mgT} (hl0 : l.stackTraces = false) (S : CallFix p m c cL_law 22 s args TT RL) (hG : GK G s s.heap) (hgh : gh G = s.heap.size) (hend : ∀ (pc : Nat) (H : Heap) (ls : Array Slot), decode cL_law pc = .ok (.ireturn, 1) → W p l e room_1 s m args below meth c H [] 752906 6831448 Z (F0 m pc ls [.int 1])) : ∀ (K28 : Option Nat → Option Nat → Int32 → Int32 → Int32 → Nat → mmT → Prop) (kK28 : ∀ (r1 : Option Nat) (r2 : Option Nat) (x3 : Int32) (x4 : Int32) (x5 : Int32) (t28 : Nat) (μ : mmT) (H : Heap) (locs : List Loc) (ls : Array Slot), Mm G μ H → va_S (Ah G) s.heap H locs → lv_has ls 22 [(0, .ref (gX G 5)), (1, va_rf r1), (2, va_rf r2), (3, .int x3), (4, .int x4), (5, .int x5)] → K28 r1 r2 x3 x4 x5 t28 μ → W p l e room_1 s m args below meth c H locs (941 + 2960 * t28) (6049 + 17792 * t28) Z (F0 m 28 ls [])) (r1 : Option Nat) (r2 : Option Nat) (x3 : Int32) (x4 : Int32) (x5 : Int32) (x6 : Int64) (x9 : Int32) (x10 : Int32) (x11 : Int32) (x12 : Int32) (x13 : Int32) (x14 : Int32) (x15 : Int32) (x16 : Int32) (x17 : Int32) (x18 : Int32) (x19 : Int32) (t28 : Nat) (μ : mmT) (H : Heap) (locs : List Loc) (ls : Array Slot), Mm G μ H → va_S (Ah G) s.heap H locs → lv_has ls 22 [(0, .ref (gX G 5)), (1, va_rf r1), (2, va_rf r2), (3, .int x3), (4, .int x4), (5, .int x5), (6, .long x6), (9, .int x9), (10, .int x10), (11, .int x11), (12, .int x12), (13, .int x13), (14, .int x14), (15, .int x15), (16, .int x16), (17, .int x17), (18, .int x18), (19, .int x19)] → w_L_law_b238 G K28 r1 r2 x3 x4 x5 x6 x9 x10 x11 x12 x13 x14 x15 x16 x17 x18 x19 t28 μ → W p l e room_1 s m args below meth c H locs (1271 + 2960 * t28) (8061 + 17792 * t28) Z (F0 m 238 ls []) := by
  intro K28 kK28 r1 r2 x3 x4 x5 x6 x9 x10 x11 x12 x13 x14 x15 x16 x17 x18 x19 t28 μ H locs ls hM hS hl h
  unfold w_L_law_b238 at h
  obtain ⟨ht28, h⟩ := h
  refine lv_iconst (v := (nI 0)) S.1 S.2.1 dL_law_238 (by decide) ?_
  refine W.widen (k := 1271 + 2960 * t28) (n := 8061 + 17792 * t28) (by omega) (by omega) ?_
  exact cB_L_law_239 hl0 S hG hgh hend K28 kK28 r1 r2 x3 x4 x5 x6 x9 x10 x11 x12 x13 x14 x15 x16 x17 x18 x19 (nI 0) t28 μ H locs ls hM hS (lv_sub hl [0, 1, 2, 3, 4, 5, 6, 7, 8, 9, 10, 11, 12, 13, 14, 15, 16, 17] rfl) h

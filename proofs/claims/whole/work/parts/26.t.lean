set_option maxRecDepth 100000 in
set_option maxHeartbeats 4000000 in
theorem c_X11_failedCommand {l : Launch} {G : mgT} {μ : mmT} {o : Nat} {Q : Int32 → mmT → Prop} (h : w_X11_failedCommand G μ o Q) : MC G l yX11_failedCommand cX11_failedCommand 1 (some .int) { frames := 1, cells := 0, slots := 0, locals := 21 } [.ref o] μ (pI Q) := by
  refine mz_MC (by decide +kernel) (Nat.le_of_ble_eq_true rfl) (fun p e s m args below meth c S hG hr hlk hnm => ?_)
  have hB25 : ∀ (s0 : Int32) (μ : mmT) (H : Heap) (locs : List Loc) (ls : Array Slot), Mm G μ H → va_S (Ah G) s.heap H locs → lv_has ls 1 [(0, .ref o)] → w_X11_failedCommand_b25 G o Q  s0 μ → W p l e { frames := 1, cells := 0, slots := 0, locals := 21 } s m args below meth c H locs 0 0 (MQ below (mQ G (pI Q)) args s 0 0 (Ah G)) (F0 m 25 ls [.int s0]) := by
    intro  s0 μ H locs ls hM hS hl h
    unfold w_X11_failedCommand_b25 at h
    exact mz_iret S hr hlk hM hS rfl (Nat.le_of_ble_eq_true rfl) (Nat.le_of_ble_eq_true rfl) dX11_failedCommand_25 ⟨_, rfl, h⟩
  intro H locs ls hM hS hl
  have hl : lv_has ls 1 [(0, .ref o)] := hl
  unfold w_X11_failedCommand at h
  refine lv_aload_n S.1 S.2.1 dX11_failedCommand_0 rfl (lv_at hl 0 rfl) ?_
  refine lv_iconst (v := (nI 0)) S.1 S.2.1 dX11_failedCommand_1 (by decide) ?_
  obtain ⟨k1, h⟩ := h
  refine mz_puti S hG hM hS cf_10 fd_320 tw_1482 dX11_failedCommand_2 k1 rfl rfl (fun H locs hM hS hz9 => ?_)
  refine lv_aload_n S.1 S.2.1 dX11_failedCommand_5 rfl (lv_at hl 0 rfl) ?_
  refine mz_geti S hG hM cf_10 fd_334 tw_1496 dX11_failedCommand_6 k1 ?_
  refine lv_iconst (v := (-1)) S.1 S.2.1 dX11_failedCommand_9 (by decide) ?_
  refine lv_icmp_ne (tgt := 21) S.1 S.2.1 dX11_failedCommand_10 (by decide) (fun c2 => ?_) (fun c2 => ?_)
  · have h := h.1 c2
    refine lv_aload_n S.1 S.2.1 dX11_failedCommand_21 rfl (lv_at hl 0 rfl) ?_
    refine mz_geti S hG hM cf_10 fd_334 tw_1496 dX11_failedCommand_22 k1 ?_
    exact hB25  (mI (sI μ 320 o (nI 0)) 334 o) (sI μ 320 o (nI 0)) H locs ls hM hS (lv_sub hl [0] rfl) h
  · have h := h.2 c2
    refine lv_aload_n S.1 S.2.1 dX11_failedCommand_13 rfl (lv_at hl 0 rfl) ?_
    refine lv_iconst (v := (nI 1)) S.1 S.2.1 dX11_failedCommand_14 (by decide) ?_
    refine mz_V S hG hM hS cf_10 k1 (As := [.int (nI 1)]) (rest := []) (c_X11_fails h) yf_X11_fails tw_1578 tw_1580 ts_28 ⟨Nat.le_of_ble_eq_true rfl, Nat.le_of_ble_eq_true rfl⟩ ⟨(Nat.le_of_ble_eq_true rfl), (Nat.le_of_ble_eq_true rfl)⟩ rfl hl.1 rfl (Nat.le_of_ble_eq_true rfl) dX11_failedCommand_15 (fun v9 μ4 H locs hp hM hS => ?_)
    obtain ⟨u3, rfl, h⟩ := hp
    refine W.cs (cells' := 0) (slots' := 0) rfl rfl ?_
    refine lv_goto (tgt := 25) S.1 S.2.1 dX11_failedCommand_18 (by decide) ?_
    exact hB25  u3 μ4 H locs ls hM hS (lv_sub hl [0] rfl) h
set_option maxRecDepth 100000 in
set_option maxHeartbeats 4000000 in
theorem c_X11_undo {l : Launch} {G : mgT} {μ : mmT} {o : Nat} {Q : Int32 → mmT → Prop} (h : w_X11_undo G μ o Q) : MC G l yX11_undo cX11_undo 2 (some .int) { frames := 1, cells := 0, slots := 0, locals := 21 } [.ref o] μ (pI Q) := by
  refine mz_MC (by decide +kernel) (Nat.le_of_ble_eq_true rfl) (fun p e s m args below meth c S hG hr hlk hnm => ?_)
  have hB30 : ∀ (n : Nat) (x1 : Int32) (μ : mmT) (H : Heap) (locs : List Loc) (ls : Array Slot), Mm G μ H → va_S (Ah G) s.heap H locs → lv_has ls 2 [(0, .ref o), (1, .int x1)] → w_X11_undo_l30 G o Q  n x1 μ → W p l e { frames := 1, cells := 0, slots := 0, locals := 21 } s m args below meth c H locs 0 0 (MQ below (mQ G (pI Q)) args s 0 0 (Ah G)) (F0 m 30 ls []) := by
    intro  n
    induction n with
    | zero =>
      intro x1 μ H locs ls hM hS hl h
      exact False.elim h
    | succ n ih =>
      intro x1 μ H locs ls hM hS hl h
      have h : w_X11_undo_b30 G o Q  (w_X11_undo_l30 G o Q  n) x1 μ := h
      unfold w_X11_undo_b30 at h
      refine lv_iload_n S.1 S.2.1 dX11_undo_30 rfl (lv_at hl 1 rfl) ?_
      refine lv_sipush (v := (nI 258)) S.1 S.2.1 dX11_undo_31 (by decide) ?_
      refine lv_icmp_ge (tgt := 64) S.1 S.2.1 dX11_undo_34 (by decide) (fun c3 => ?_) (fun c3 => ?_)
      · have h := h.1 c3
        refine lv_aload_n S.1 S.2.1 dX11_undo_64 rfl (lv_at hl 0 rfl) ?_
        obtain ⟨k4, h⟩ := h
        refine mz_geti S hG hM cf_10 fd_326 tw_1488 dX11_undo_65 k4 ?_
        exact mz_iret S hr hlk hM hS rfl (Nat.le_of_ble_eq_true rfl) (Nat.le_of_ble_eq_true rfl) dX11_undo_68 ⟨_, rfl, h⟩
      · have h := h.2 c3
        refine lv_aload_n S.1 S.2.1 dX11_undo_37 rfl (lv_at hl 0 rfl) ?_
        obtain ⟨k5, h⟩ := h
        refine mz_getr S hG hM cf_10 fd_321 tw_1483 dX11_undo_38 k5 ?_
        refine lv_iload_n S.1 S.2.1 dX11_undo_41 rfl (lv_at hl 1 rfl) ?_
        refine lv_aload_n S.1 S.2.1 dX11_undo_42 rfl (lv_at hl 0 rfl) ?_
        refine mz_getr S hG hM cf_10 fd_324 tw_1486 dX11_undo_43 k5 ?_
        refine lv_sipush (v := (nI 258)) S.1 S.2.1 dX11_undo_46 (by decide) ?_
        refine lv_aload_n S.1 S.2.1 dX11_undo_49 rfl (lv_at hl 0 rfl) ?_
        refine mz_geti S hG hM cf_10 fd_326 tw_1488 dX11_undo_50 k5 ?_
        refine lv_imul S.1 S.2.1 dX11_undo_53 ?_
        refine lv_iload_n S.1 S.2.1 dX11_undo_54 rfl (lv_at hl 1 rfl) ?_
        refine lv_iadd S.1 S.2.1 dX11_undo_55 ?_
        obtain ⟨a6, e7, h⟩ := h
        refine mz_o1 e7 ?_
        obtain ⟨k8, h⟩ := h
        obtain ⟨b9, h⟩ := h
        refine mz_iald S hG hM dX11_undo_56 k8 b9 ?_
        obtain ⟨a10, e11, h⟩ := h
        refine mz_o2 e11 ?_
        obtain ⟨k12, h⟩ := h
        obtain ⟨b13, h⟩ := h
        refine mz_iast S hG hM hS dX11_undo_57 k12 b13 (fun H locs hM hS hz9 => ?_)
        refine lv_iinc (v := (x1 + nI 1)) (lv' := [(1, .int (x1 + nI 1)), (0, .ref o)]) S.1 S.2.1 dX11_undo_58 hl (k := 1) rfl rfl (by decide) rfl (fun ls hl => ?_)
        refine lv_goto (tgt := 30) S.1 S.2.1 dX11_undo_61 (by decide) ?_
        exact ih (x1 + nI 1) (sA μ a10 x1.toNatClampNeg (mA μ a6 (((nI 258) * (mI μ 326 o)) + x1).toNatClampNeg)) H locs ls hM hS (lv_sub hl [1, 0] rfl) h
  intro H locs ls hM hS hl
  have hl : lv_has ls 2 [(0, .ref o)] := hl
  unfold w_X11_undo at h
  refine lv_aload_n S.1 S.2.1 dX11_undo_0 rfl (lv_at hl 0 rfl) ?_
  refine lv_iconst (v := (nI 0)) S.1 S.2.1 dX11_undo_1 (by decide) ?_
  obtain ⟨k1, h⟩ := h
  refine mz_puti S hG hM hS cf_10 fd_320 tw_1482 dX11_undo_2 k1 rfl rfl (fun H locs hM hS hz9 => ?_)
  refine lv_aload_n S.1 S.2.1 dX11_undo_5 rfl (lv_at hl 0 rfl) ?_
  refine mz_geti S hG hM cf_10 fd_326 tw_1488 dX11_undo_6 k1 ?_
  refine lv_if_ne (tgt := 18) S.1 S.2.1 dX11_undo_9 (by decide) (fun c2 => ?_) (fun c2 => ?_)
  · have h := h.1 c2
    refine lv_aload_n S.1 S.2.1 dX11_undo_18 rfl (lv_at hl 0 rfl) ?_
    refine lv_dup S.1 S.2.1 dX11_undo_19 rfl ?_
    refine mz_geti S hG hM cf_10 fd_326 tw_1488 dX11_undo_20 k1 ?_
    refine lv_iconst (v := (nI 1)) S.1 S.2.1 dX11_undo_23 (by decide) ?_
    refine lv_isub S.1 S.2.1 dX11_undo_24 ?_
    refine mz_puti S hG hM hS cf_10 fd_326 tw_1488 dX11_undo_25 k1 rfl rfl (fun H locs hM hS hz9 => ?_)
    refine lv_iconst (v := (nI 0)) S.1 S.2.1 dX11_undo_28 (by decide) ?_
    refine lv_istore_n (lv' := [(1, .int (nI 0)), (0, .ref o)]) S.1 S.2.1 dX11_undo_29 rfl hl (by decide) rfl (fun ls hl => ?_)
    obtain ⟨n9, h⟩ := h
    exact hB30  n9 (nI 0) (sI (sI μ 320 o (nI 0)) 326 o ((mI (sI μ 320 o (nI 0)) 326 o) - (nI 1))) H locs ls hM hS (lv_sub hl [1, 0] rfl) h
  · have h := h.2 c2
    refine lv_aload_n S.1 S.2.1 dX11_undo_12 rfl (lv_at hl 0 rfl) ?_
    refine lv_iconst (v := (nI 1)) S.1 S.2.1 dX11_undo_13 (by decide) ?_
    refine mz_V S hG hM hS cf_10 k1 (As := [.int (nI 1)]) (rest := []) (c_X11_fails h) yf_X11_fails tw_1578 tw_1580 ts_28 ⟨Nat.le_of_ble_eq_true rfl, Nat.le_of_ble_eq_true rfl⟩ ⟨(Nat.le_of_ble_eq_true rfl), (Nat.le_of_ble_eq_true rfl)⟩ rfl hl.1 rfl (Nat.le_of_ble_eq_true rfl) dX11_undo_14 (fun v9 μ15 H locs hp hM hS => ?_)
    obtain ⟨u14, rfl, h⟩ := hp
    refine W.cs (cells' := 0) (slots' := 0) rfl rfl ?_
    exact mz_iret S hr hlk hM hS rfl (Nat.le_of_ble_eq_true rfl) (Nat.le_of_ble_eq_true rfl) dX11_undo_17 ⟨_, rfl, h⟩
set_option maxRecDepth 100000 in
set_option maxHeartbeats 4000000 in
theorem c_X11_save {l : Launch} {G : mgT} {μ : mmT} {o : Nat} {Q : Int32 → mmT → Prop} (h : w_X11_save G μ o Q) : MC G l yX11_save cX11_save 2 (some .int) { frames := 0, cells := 0, slots := 0, locals := 0 } [.ref o] μ (pI Q) := by
  refine mz_MC (by decide +kernel) (Nat.le_of_ble_eq_true rfl) (fun p e s m args below meth c S hG hr hlk hnm => ?_)
  have hB7 : ∀ (n : Nat) (x1 : Int32) (μ : mmT) (H : Heap) (locs : List Loc) (ls : Array Slot), Mm G μ H → va_S (Ah G) s.heap H locs → lv_has ls 2 [(0, .ref o), (1, .int x1)] → w_X11_save_l7 G o Q  n x1 μ → W p l e { frames := 0, cells := 0, slots := 0, locals := 0 } s m args below meth c H locs 0 0 (MQ below (mQ G (pI Q)) args s 0 0 (Ah G)) (F0 m 7 ls []) := by
    intro  n
    induction n with
    | zero =>
      intro x1 μ H locs ls hM hS hl h
      exact False.elim h
    | succ n ih =>
      intro x1 μ H locs ls hM hS hl h
      have h : w_X11_save_b7 G o Q  (w_X11_save_l7 G o Q  n) x1 μ := h
      unfold w_X11_save_b7 at h
      refine lv_iload_n S.1 S.2.1 dX11_save_7 rfl (lv_at hl 1 rfl) ?_
      refine lv_sipush (v := (nI 258)) S.1 S.2.1 dX11_save_8 (by decide) ?_
      refine lv_icmp_ge (tgt := 32) S.1 S.2.1 dX11_save_11 (by decide) (fun c2 => ?_) (fun c2 => ?_)
      · have h := h.1 c2
        refine lv_aload_n S.1 S.2.1 dX11_save_32 rfl (lv_at hl 0 rfl) ?_
        refine lv_iconst (v := (nI 1)) S.1 S.2.1 dX11_save_33 (by decide) ?_
        obtain ⟨k3, h⟩ := h
        refine mz_puti S hG hM hS cf_10 fd_327 tw_1489 dX11_save_34 k3 rfl rfl (fun H locs hM hS hz9 => ?_)
        refine lv_aload_n S.1 S.2.1 dX11_save_37 rfl (lv_at hl 0 rfl) ?_
        refine mz_getr S hG hM cf_10 fd_321 tw_1483 dX11_save_38 k3 ?_
        refine lv_iconst (v := (nI 2)) S.1 S.2.1 dX11_save_41 (by decide) ?_
        obtain ⟨a4, e5, h⟩ := h
        refine mz_o1 e5 ?_
        obtain ⟨k6, h⟩ := h
        obtain ⟨b7, h⟩ := h
        refine mz_iald S hG hM dX11_save_42 k6 b7 ?_
        exact mz_iret S hr hlk hM hS rfl (Nat.le_of_ble_eq_true rfl) (Nat.le_of_ble_eq_true rfl) dX11_save_43 ⟨_, rfl, h⟩
      · have h := h.2 c2
        refine lv_aload_n S.1 S.2.1 dX11_save_14 rfl (lv_at hl 0 rfl) ?_
        obtain ⟨k8, h⟩ := h
        refine mz_getr S hG hM cf_10 fd_323 tw_1485 dX11_save_15 k8 ?_
        refine lv_iload_n S.1 S.2.1 dX11_save_18 rfl (lv_at hl 1 rfl) ?_
        refine lv_aload_n S.1 S.2.1 dX11_save_19 rfl (lv_at hl 0 rfl) ?_
        refine mz_getr S hG hM cf_10 fd_321 tw_1483 dX11_save_20 k8 ?_
        refine lv_iload_n S.1 S.2.1 dX11_save_23 rfl (lv_at hl 1 rfl) ?_
        obtain ⟨a9, e10, h⟩ := h
        refine mz_o1 e10 ?_
        obtain ⟨k11, h⟩ := h
        obtain ⟨b12, h⟩ := h
        refine mz_iald S hG hM dX11_save_24 k11 b12 ?_
        obtain ⟨a13, e14, h⟩ := h
        refine mz_o2 e14 ?_
        obtain ⟨k15, h⟩ := h
        obtain ⟨b16, h⟩ := h
        refine mz_iast S hG hM hS dX11_save_25 k15 b16 (fun H locs hM hS hz9 => ?_)
        refine lv_iinc (v := (x1 + nI 1)) (lv' := [(1, .int (x1 + nI 1)), (0, .ref o)]) S.1 S.2.1 dX11_save_26 hl (k := 1) rfl rfl (by decide) rfl (fun ls hl => ?_)
        refine lv_goto (tgt := 7) S.1 S.2.1 dX11_save_29 (by decide) ?_
        exact ih (x1 + nI 1) (sA μ a13 x1.toNatClampNeg (mA μ a9 x1.toNatClampNeg)) H locs ls hM hS (lv_sub hl [1, 0] rfl) h
  intro H locs ls hM hS hl
  have hl : lv_has ls 2 [(0, .ref o)] := hl
  unfold w_X11_save at h
  refine lv_aload_n S.1 S.2.1 dX11_save_0 rfl (lv_at hl 0 rfl) ?_
  refine lv_iconst (v := (nI 0)) S.1 S.2.1 dX11_save_1 (by decide) ?_
  obtain ⟨k1, h⟩ := h
  refine mz_puti S hG hM hS cf_10 fd_320 tw_1482 dX11_save_2 k1 rfl rfl (fun H locs hM hS hz9 => ?_)
  refine lv_iconst (v := (nI 0)) S.1 S.2.1 dX11_save_5 (by decide) ?_
  refine lv_istore_n (lv' := [(1, .int (nI 0)), (0, .ref o)]) S.1 S.2.1 dX11_save_6 rfl hl (by decide) rfl (fun ls hl => ?_)
  obtain ⟨n9, h⟩ := h
  exact hB7  n9 (nI 0) (sI μ 320 o (nI 0)) H locs ls hM hS (lv_sub hl [1, 0] rfl) h
set_option maxRecDepth 100000 in
set_option maxHeartbeats 4000000 in
theorem c_X11_restore {l : Launch} {G : mgT} {μ : mmT} {o : Nat} {Q : Int32 → mmT → Prop} (h : w_X11_restore G μ o Q) : MC G l yX11_restore cX11_restore 2 (some .int) { frames := 1, cells := 0, slots := 0, locals := 21 } [.ref o] μ (pI Q) := by
  refine mz_MC (by decide +kernel) (Nat.le_of_ble_eq_true rfl) (fun p e s m args below meth c S hG hr hlk hnm => ?_)
  have hB20 : ∀ (n : Nat) (x1 : Int32) (μ : mmT) (H : Heap) (locs : List Loc) (ls : Array Slot), Mm G μ H → va_S (Ah G) s.heap H locs → lv_has ls 2 [(0, .ref o), (1, .int x1)] → w_X11_restore_l20 G o Q  n x1 μ → W p l e { frames := 1, cells := 0, slots := 0, locals := 21 } s m args below meth c H locs 0 0 (MQ below (mQ G (pI Q)) args s 0 0 (Ah G)) (F0 m 20 ls []) := by
    intro  n
    induction n with
    | zero =>
      intro x1 μ H locs ls hM hS hl h
      exact False.elim h
    | succ n ih =>
      intro x1 μ H locs ls hM hS hl h
      have h : w_X11_restore_b20 G o Q  (w_X11_restore_l20 G o Q  n) x1 μ := h
      unfold w_X11_restore_b20 at h
      refine lv_iload_n S.1 S.2.1 dX11_restore_20 rfl (lv_at hl 1 rfl) ?_
      refine lv_sipush (v := (nI 258)) S.1 S.2.1 dX11_restore_21 (by decide) ?_
      refine lv_icmp_ge (tgt := 45) S.1 S.2.1 dX11_restore_24 (by decide) (fun c3 => ?_) (fun c3 => ?_)
      · have h := h.1 c3
        refine lv_aload_n S.1 S.2.1 dX11_restore_45 rfl (lv_at hl 0 rfl) ?_
        refine lv_iconst (v := (nI 0)) S.1 S.2.1 dX11_restore_46 (by decide) ?_
        obtain ⟨k4, h⟩ := h
        refine mz_puti S hG hM hS cf_10 fd_326 tw_1488 dX11_restore_47 k4 rfl rfl (fun H locs hM hS hz9 => ?_)
        refine lv_aload_n S.1 S.2.1 dX11_restore_50 rfl (lv_at hl 0 rfl) ?_
        refine mz_getr S hG hM cf_10 fd_321 tw_1483 dX11_restore_51 k4 ?_
        refine lv_iconst (v := (nI 2)) S.1 S.2.1 dX11_restore_54 (by decide) ?_
        obtain ⟨a5, e6, h⟩ := h
        refine mz_o1 e6 ?_
        obtain ⟨k7, h⟩ := h
        obtain ⟨b8, h⟩ := h
        refine mz_iald S hG hM dX11_restore_55 k7 b8 ?_
        exact mz_iret S hr hlk hM hS rfl (Nat.le_of_ble_eq_true rfl) (Nat.le_of_ble_eq_true rfl) dX11_restore_56 ⟨_, rfl, h⟩
      · have h := h.2 c3
        refine lv_aload_n S.1 S.2.1 dX11_restore_27 rfl (lv_at hl 0 rfl) ?_
        obtain ⟨k9, h⟩ := h
        refine mz_getr S hG hM cf_10 fd_321 tw_1483 dX11_restore_28 k9 ?_
        refine lv_iload_n S.1 S.2.1 dX11_restore_31 rfl (lv_at hl 1 rfl) ?_
        refine lv_aload_n S.1 S.2.1 dX11_restore_32 rfl (lv_at hl 0 rfl) ?_
        refine mz_getr S hG hM cf_10 fd_323 tw_1485 dX11_restore_33 k9 ?_
        refine lv_iload_n S.1 S.2.1 dX11_restore_36 rfl (lv_at hl 1 rfl) ?_
        obtain ⟨a10, e11, h⟩ := h
        refine mz_o1 e11 ?_
        obtain ⟨k12, h⟩ := h
        obtain ⟨b13, h⟩ := h
        refine mz_iald S hG hM dX11_restore_37 k12 b13 ?_
        obtain ⟨a14, e15, h⟩ := h
        refine mz_o2 e15 ?_
        obtain ⟨k16, h⟩ := h
        obtain ⟨b17, h⟩ := h
        refine mz_iast S hG hM hS dX11_restore_38 k16 b17 (fun H locs hM hS hz9 => ?_)
        refine lv_iinc (v := (x1 + nI 1)) (lv' := [(1, .int (x1 + nI 1)), (0, .ref o)]) S.1 S.2.1 dX11_restore_39 hl (k := 1) rfl rfl (by decide) rfl (fun ls hl => ?_)
        refine lv_goto (tgt := 20) S.1 S.2.1 dX11_restore_42 (by decide) ?_
        exact ih (x1 + nI 1) (sA μ a14 x1.toNatClampNeg (mA μ a10 x1.toNatClampNeg)) H locs ls hM hS (lv_sub hl [1, 0] rfl) h
  intro H locs ls hM hS hl
  have hl : lv_has ls 2 [(0, .ref o)] := hl
  unfold w_X11_restore at h
  refine lv_aload_n S.1 S.2.1 dX11_restore_0 rfl (lv_at hl 0 rfl) ?_
  refine lv_iconst (v := (nI 0)) S.1 S.2.1 dX11_restore_1 (by decide) ?_
  obtain ⟨k1, h⟩ := h
  refine mz_puti S hG hM hS cf_10 fd_320 tw_1482 dX11_restore_2 k1 rfl rfl (fun H locs hM hS hz9 => ?_)
  refine lv_aload_n S.1 S.2.1 dX11_restore_5 rfl (lv_at hl 0 rfl) ?_
  refine mz_geti S hG hM cf_10 fd_327 tw_1489 dX11_restore_6 k1 ?_
  refine lv_if_ne (tgt := 18) S.1 S.2.1 dX11_restore_9 (by decide) (fun c2 => ?_) (fun c2 => ?_)
  · have h := h.1 c2
    refine lv_iconst (v := (nI 0)) S.1 S.2.1 dX11_restore_18 (by decide) ?_
    refine lv_istore_n (lv' := [(1, .int (nI 0)), (0, .ref o)]) S.1 S.2.1 dX11_restore_19 rfl hl (by decide) rfl (fun ls hl => ?_)
    obtain ⟨n9, h⟩ := h
    exact hB20  n9 (nI 0) (sI μ 320 o (nI 0)) H locs ls hM hS (lv_sub hl [1, 0] rfl) h
  · have h := h.2 c2
    refine lv_aload_n S.1 S.2.1 dX11_restore_12 rfl (lv_at hl 0 rfl) ?_
    refine lv_iconst (v := (nI 1)) S.1 S.2.1 dX11_restore_13 (by decide) ?_
    refine mz_V S hG hM hS cf_10 k1 (As := [.int (nI 1)]) (rest := []) (c_X11_fails h) yf_X11_fails tw_1578 tw_1580 ts_28 ⟨Nat.le_of_ble_eq_true rfl, Nat.le_of_ble_eq_true rfl⟩ ⟨(Nat.le_of_ble_eq_true rfl), (Nat.le_of_ble_eq_true rfl)⟩ rfl hl.1 rfl (Nat.le_of_ble_eq_true rfl) dX11_restore_14 (fun v9 μ19 H locs hp hM hS => ?_)
    obtain ⟨u18, rfl, h⟩ := hp
    refine W.cs (cells' := 0) (slots' := 0) rfl rfl ?_
    exact mz_iret S hr hlk hM hS rfl (Nat.le_of_ble_eq_true rfl) (Nat.le_of_ble_eq_true rfl) dX11_restore_17 ⟨_, rfl, h⟩
set_option maxRecDepth 100000 in
set_option maxHeartbeats 4000000 in
theorem c_L_addNest {l : Launch} {G : mgT} {μ : mmT} {r0 : Option Nat} {x1 : Int32} {x2 : Int32} {r3 : Option Nat} {Q : Int32 → mmT → Prop} (hl0 : l.stackTraces = false) (h : w_L_addNest G μ r0 x1 x2 r3 Q) : MH G l yL_addNest cL_addNest 5 (some .int) [(0, 10, 13, 13), (0, 10, 17, 15)] { frames := 8, cells := 1, slots := 6, locals := 167 } [va_rf r0, .int x1, .int x2, va_rf r3] μ (pI Q) := by
  refine mz_MH (by decide +kernel) (by simp [lg_sl, mz_cat, mz_cr, mz_ci, mz_cl, mz_cf, mz_cd, mz_cn]) (fun p e s m args below meth c S hG hr hlk hnm htab => ?_)
  intro H locs ls hM hS hl
  have hl : lv_has ls 5 [(0, va_rf r0), (1, .int x1), (2, .int x2), (3, va_rf r3)] := by simpa [lv_args, mz_cat, mz_cr, mz_ci, mz_cl, mz_cf, mz_cd, mz_cn] using hl
  unfold w_L_addNest at h
  refine mz_aload_n (x := r3) S.1 S.2.1 dL_addNest_0 rfl (lv_at hl 3 rfl) ?_
  refine lv_iconst (v := (nI 0)) S.1 S.2.1 dL_addNest_1 (by decide) ?_
  refine mz_aload_n (x := r0) S.1 S.2.1 dL_addNest_2 rfl (lv_at hl 0 rfl) ?_
  refine lv_iload_n S.1 S.2.1 dL_addNest_3 rfl (lv_at hl 1 rfl) ?_
  refine lv_iload_n S.1 S.2.1 dL_addNest_4 rfl (lv_at hl 2 rfl) ?_
  obtain ⟨a1, e2, h⟩ := h
  refine mz_o2 e2 ?_
  obtain ⟨k3, h⟩ := h
  refine mz_VX S hG hM hS cf_9 k3 (As := [.int x1, .int x2]) (rest := [.int (nI 0), va_rf r3]) (c_X10_addNest hl0 h) yf_X10_addNest tw_859 tw_860 tw_861 ⟨Nat.le_of_ble_eq_true rfl, Nat.le_of_ble_eq_true rfl⟩ ⟨(Nat.le_of_ble_eq_true rfl), (Nat.le_of_ble_eq_true rfl)⟩ rfl hl.1 rfl (by simp [mz_cat, mz_cr, mz_ci, mz_cl, mz_cf, mz_cd, mz_cn]) dL_addNest_5 (fun E ce q9 μ9 H locs hp hM hS hc9 hv9 hcl9 => ?_) (fun v9 μ5 H locs hp hM hS => ?_)
  · have h := hp
    rcases h with ⟨rfl, h⟩ | h
    · refine vx_catch S.2.2.2.1 (name := "java/lang/IllegalArgumentException") [] ⟨0, 10, 13, 13⟩ [⟨0, 10, 17, 15⟩] (by rw [htab]; rfl) (fun z hz => absurd hz List.not_mem_nil) (by decide) (by decide) (S.2.2.2.2 _ tw_857) (hG.cast (i := 657) (by decide +kernel)) hc9 hv9 hcl9 ?_
      refine W.cs (cells' := 1) (slots' := 6) rfl rfl ?_
      refine lv_astore (i := 4) (lv' := [(4, .ref q9), (0, va_rf r0), (1, .int x1), (2, .int x2), (3, va_rf r3)]) S.1 S.2.1 dL_addNest_13 hl (by decide) (by simp [List.filter, mz_cat]) (fun ls hl => ?_)
      refine lv_iconst (v := (nI 1)) S.1 S.2.1 dL_addNest_15 (by decide) ?_
      exact mz_iret S hr hlk hM hS rfl (Nat.le_of_ble_eq_true rfl) (Nat.le_of_ble_eq_true rfl) dL_addNest_16 ⟨_, rfl, h⟩
    obtain ⟨rfl, h⟩ := h
    refine vx_catch S.2.2.2.1 (name := "java/lang/IllegalStateException") [⟨0, 10, 13, 13⟩] ⟨0, 10, 17, 15⟩ [] (by rw [htab]; rfl) (fun z hz => (List.mem_cons.mp hz).elim (fun e9 => by subst e9; exact Or.inr ⟨by decide, "java/lang/IllegalArgumentException", S.2.2.2.2 _ tw_857, hG.nc (by decide)⟩) (fun hz => absurd hz List.not_mem_nil)) (by decide) (by decide) (S.2.2.2.2 _ tw_858) (hG.cast (i := 880) (by decide +kernel)) hc9 hv9 hcl9 ?_
    refine W.cs (cells' := 1) (slots' := 6) rfl rfl ?_
    refine lv_astore (i := 4) (lv' := [(4, .ref q9), (0, va_rf r0), (1, .int x1), (2, .int x2), (3, va_rf r3)]) S.1 S.2.1 dL_addNest_17 hl (by decide) (by simp [List.filter, mz_cat]) (fun ls hl => ?_)
    refine lv_iconst (v := (nI 2)) S.1 S.2.1 dL_addNest_19 (by decide) ?_
    exact mz_iret S hr hlk hM hS rfl (Nat.le_of_ble_eq_true rfl) (Nat.le_of_ble_eq_true rfl) dL_addNest_20 ⟨_, rfl, h⟩
  · obtain ⟨u4, rfl, h⟩ := hp
    refine W.cs (cells' := 1) (slots' := 6) rfl rfl ?_
    refine lv_i2l S.1 S.2.1 dL_addNest_8 rfl ?_
    obtain ⟨a6, e7, h⟩ := h
    refine mz_o2 e7 ?_
    obtain ⟨k8, h⟩ := h
    obtain ⟨b9, h⟩ := h
    refine mz_last S hG hM hS dL_addNest_9 k8 b9 (fun H locs hM hS hz9 => ?_)
    refine lv_goto (tgt := 21) S.1 S.2.1 dL_addNest_10 (by decide) ?_
    refine lv_iconst (v := (nI 0)) S.1 S.2.1 dL_addNest_21 (by decide) ?_
    exact mz_iret S hr hlk hM hS rfl (Nat.le_of_ble_eq_true rfl) (Nat.le_of_ble_eq_true rfl) dL_addNest_22 ⟨_, rfl, h⟩
set_option maxRecDepth 100000 in
set_option maxHeartbeats 4000000 in
theorem c_L_addCrow {l : Launch} {G : mgT} {μ : mmT} {r0 : Option Nat} {r1 : Option Nat} {Q : Int32 → mmT → Prop} (hl0 : l.stackTraces = false) (h : w_L_addCrow G μ r0 r1 Q) : MH G l yL_addCrow cL_addCrow 3 (some .int) [(0, 8, 11, 15)] { frames := 8, cells := 1, slots := 6, locals := 165 } [va_rf r0, va_rf r1] μ (pI Q) := by
  refine mz_MH (by decide +kernel) (by simp [lg_sl, mz_cat, mz_cr, mz_ci, mz_cl, mz_cf, mz_cd, mz_cn]) (fun p e s m args below meth c S hG hr hlk hnm htab => ?_)
  intro H locs ls hM hS hl
  have hl : lv_has ls 3 [(0, va_rf r0), (1, va_rf r1)] := by simpa [lv_args, mz_cat, mz_cr, mz_ci, mz_cl, mz_cf, mz_cd, mz_cn] using hl
  unfold w_L_addCrow at h
  refine mz_aload_n (x := r1) S.1 S.2.1 dL_addCrow_0 rfl (lv_at hl 1 rfl) ?_
  refine lv_iconst (v := (nI 0)) S.1 S.2.1 dL_addCrow_1 (by decide) ?_
  refine mz_aload_n (x := r0) S.1 S.2.1 dL_addCrow_2 rfl (lv_at hl 0 rfl) ?_
  obtain ⟨a1, e2, h⟩ := h
  refine mz_o0 e2 ?_
  obtain ⟨k3, h⟩ := h
  refine mz_VX S hG hM hS cf_9 k3 (As := []) (rest := [.int (nI 0), va_rf r1]) (c_X10_addCrow hl0 h) yf_X10_addCrow tw_931 tw_932 tw_933 ⟨Nat.le_of_ble_eq_true rfl, Nat.le_of_ble_eq_true rfl⟩ ⟨(Nat.le_of_ble_eq_true rfl), (Nat.le_of_ble_eq_true rfl)⟩ rfl hl.1 rfl (by simp [mz_cat, mz_cr, mz_ci, mz_cl, mz_cf, mz_cd, mz_cn]) dL_addCrow_3 (fun E ce q9 μ9 H locs hp hM hS hc9 hv9 hcl9 => ?_) (fun v9 μ5 H locs hp hM hS => ?_)
  · have h := hp
    obtain ⟨rfl, h⟩ := h
    refine vx_catch S.2.2.2.1 (name := "java/lang/IllegalStateException") [] ⟨0, 8, 11, 15⟩ [] (by rw [htab]; rfl) (fun z hz => absurd hz List.not_mem_nil) (by decide) (by decide) (S.2.2.2.2 _ tw_858) (hG.cast (i := 880) (by decide +kernel)) hc9 hv9 hcl9 ?_
    refine W.cs (cells' := 1) (slots' := 6) rfl rfl ?_
    refine lv_astore_n (i := 2) (lv' := [(2, .ref q9), (0, va_rf r0), (1, va_rf r1)]) S.1 S.2.1 dL_addCrow_11 rfl hl (by decide) (by simp [List.filter, mz_cat]) (fun ls hl => ?_)
    refine lv_iconst (v := (nI 1)) S.1 S.2.1 dL_addCrow_12 (by decide) ?_
    exact mz_iret S hr hlk hM hS rfl (Nat.le_of_ble_eq_true rfl) (Nat.le_of_ble_eq_true rfl) dL_addCrow_13 ⟨_, rfl, h⟩
  · obtain ⟨u4, rfl, h⟩ := hp
    refine W.cs (cells' := 1) (slots' := 6) rfl rfl ?_
    refine lv_i2l S.1 S.2.1 dL_addCrow_6 rfl ?_
    obtain ⟨a6, e7, h⟩ := h
    refine mz_o2 e7 ?_
    obtain ⟨k8, h⟩ := h
    obtain ⟨b9, h⟩ := h
    refine mz_last S hG hM hS dL_addCrow_7 k8 b9 (fun H locs hM hS hz9 => ?_)
    refine lv_goto (tgt := 14) S.1 S.2.1 dL_addCrow_8 (by decide) ?_
    refine lv_iconst (v := (nI 0)) S.1 S.2.1 dL_addCrow_14 (by decide) ?_
    exact mz_iret S hr hlk hM hS rfl (Nat.le_of_ble_eq_true rfl) (Nat.le_of_ble_eq_true rfl) dL_addCrow_15 ⟨_, rfl, h⟩
set_option maxRecDepth 100000 in
set_option maxHeartbeats 4000000 in
theorem c_L_publish {l : Launch} {G : mgT} {μ : mmT} {r0 : Option Nat} {x1 : Int32} {x2 : Int32} {r3 : Option Nat} {Q : Int32 → mmT → Prop} (hl0 : l.stackTraces = false) (h : w_L_publish G μ r0 x1 x2 r3 Q) : MH G l yL_publish cL_publish 5 (some .int) [(0, 10, 13, 24), (0, 10, 17, 13), (0, 10, 21, 15)] { frames := 8, cells := 1, slots := 6, locals := 167 } [va_rf r0, .int x1, .int x2, va_rf r3] μ (pI Q) := by
  refine mz_MH (by decide +kernel) (by simp [lg_sl, mz_cat, mz_cr, mz_ci, mz_cl, mz_cf, mz_cd, mz_cn]) (fun p e s m args below meth c S hG hr hlk hnm htab => ?_)
  intro H locs ls hM hS hl
  have hl : lv_has ls 5 [(0, va_rf r0), (1, .int x1), (2, .int x2), (3, va_rf r3)] := by simpa [lv_args, mz_cat, mz_cr, mz_ci, mz_cl, mz_cf, mz_cd, mz_cn] using hl
  unfold w_L_publish at h
  refine mz_aload_n (x := r3) S.1 S.2.1 dL_publish_0 rfl (lv_at hl 3 rfl) ?_
  refine lv_iconst (v := (nI 0)) S.1 S.2.1 dL_publish_1 (by decide) ?_
  refine mz_aload_n (x := r0) S.1 S.2.1 dL_publish_2 rfl (lv_at hl 0 rfl) ?_
  refine lv_iload_n S.1 S.2.1 dL_publish_3 rfl (lv_at hl 1 rfl) ?_
  refine lv_iload_n S.1 S.2.1 dL_publish_4 rfl (lv_at hl 2 rfl) ?_
  obtain ⟨a1, e2, h⟩ := h
  refine mz_o2 e2 ?_
  obtain ⟨k3, h⟩ := h
  refine mz_VX S hG hM hS cf_9 k3 (As := [.int x1, .int x2]) (rest := [.int (nI 0), va_rf r3]) (c_X10_publish hl0 h) yf_X10_publish tw_945 tw_946 tw_947 ⟨Nat.le_of_ble_eq_true rfl, Nat.le_of_ble_eq_true rfl⟩ ⟨(Nat.le_of_ble_eq_true rfl), (Nat.le_of_ble_eq_true rfl)⟩ rfl hl.1 rfl (by simp [mz_cat, mz_cr, mz_ci, mz_cl, mz_cf, mz_cd, mz_cn]) dL_publish_5 (fun E ce q9 μ9 H locs hp hM hS hc9 hv9 hcl9 => ?_) (fun v9 μ5 H locs hp hM hS => ?_)
  · have h := hp
    rcases h with ⟨rfl, h⟩ | h
    · refine vx_catch S.2.2.2.1 (name := "java/lang/IndexOutOfBoundsException") [] ⟨0, 10, 13, 24⟩ [⟨0, 10, 17, 13⟩, ⟨0, 10, 21, 15⟩] (by rw [htab]; rfl) (fun z hz => absurd hz List.not_mem_nil) (by decide) (by decide) (S.2.2.2.2 _ tw_942) (hG.cast (i := 896) (by decide +kernel)) hc9 hv9 hcl9 ?_
      refine W.cs (cells' := 1) (slots' := 6) rfl rfl ?_
      refine lv_astore (i := 4) (lv' := [(4, .ref q9), (0, va_rf r0), (1, .int x1), (2, .int x2), (3, va_rf r3)]) S.1 S.2.1 dL_publish_13 hl (by decide) (by simp [List.filter, mz_cat]) (fun ls hl => ?_)
      refine lv_iconst (v := (nI 1)) S.1 S.2.1 dL_publish_15 (by decide) ?_
      exact mz_iret S hr hlk hM hS rfl (Nat.le_of_ble_eq_true rfl) (Nat.le_of_ble_eq_true rfl) dL_publish_16 ⟨_, rfl, h⟩
    rcases h with ⟨rfl, h⟩ | h
    · refine vx_catch S.2.2.2.1 (name := "java/lang/IllegalArgumentException") [⟨0, 10, 13, 24⟩] ⟨0, 10, 17, 13⟩ [⟨0, 10, 21, 15⟩] (by rw [htab]; rfl) (fun z hz => (List.mem_cons.mp hz).elim (fun e9 => by subst e9; exact Or.inr ⟨by decide, "java/lang/IndexOutOfBoundsException", S.2.2.2.2 _ tw_942, hG.nc (by decide)⟩) (fun hz => absurd hz List.not_mem_nil)) (by decide) (by decide) (S.2.2.2.2 _ tw_857) (hG.cast (i := 657) (by decide +kernel)) hc9 hv9 hcl9 ?_
      refine W.cs (cells' := 1) (slots' := 6) rfl rfl ?_
      refine lv_astore (i := 4) (lv' := [(4, .ref q9), (0, va_rf r0), (1, .int x1), (2, .int x2), (3, va_rf r3)]) S.1 S.2.1 dL_publish_17 hl (by decide) (by simp [List.filter, mz_cat]) (fun ls hl => ?_)
      refine lv_iconst (v := (nI 2)) S.1 S.2.1 dL_publish_19 (by decide) ?_
      exact mz_iret S hr hlk hM hS rfl (Nat.le_of_ble_eq_true rfl) (Nat.le_of_ble_eq_true rfl) dL_publish_20 ⟨_, rfl, h⟩
    obtain ⟨rfl, h⟩ := h
    refine vx_catch S.2.2.2.1 (name := "java/lang/IllegalStateException") [⟨0, 10, 13, 24⟩, ⟨0, 10, 17, 13⟩] ⟨0, 10, 21, 15⟩ [] (by rw [htab]; rfl) (fun z hz => (List.mem_cons.mp hz).elim (fun e9 => by subst e9; exact Or.inr ⟨by decide, "java/lang/IndexOutOfBoundsException", S.2.2.2.2 _ tw_942, hG.nc (by decide)⟩) (fun hz => (List.mem_cons.mp hz).elim (fun e9 => by subst e9; exact Or.inr ⟨by decide, "java/lang/IllegalArgumentException", S.2.2.2.2 _ tw_857, hG.nc (by decide)⟩) (fun hz => absurd hz List.not_mem_nil))) (by decide) (by decide) (S.2.2.2.2 _ tw_858) (hG.cast (i := 880) (by decide +kernel)) hc9 hv9 hcl9 ?_
    refine W.cs (cells' := 1) (slots' := 6) rfl rfl ?_
    refine lv_astore (i := 4) (lv' := [(4, .ref q9), (0, va_rf r0), (1, .int x1), (2, .int x2), (3, va_rf r3)]) S.1 S.2.1 dL_publish_21 hl (by decide) (by simp [List.filter, mz_cat]) (fun ls hl => ?_)
    refine lv_iconst (v := (nI 3)) S.1 S.2.1 dL_publish_23 (by decide) ?_
    exact mz_iret S hr hlk hM hS rfl (Nat.le_of_ble_eq_true rfl) (Nat.le_of_ble_eq_true rfl) dL_publish_24 ⟨_, rfl, h⟩
  · obtain ⟨u4, rfl, h⟩ := hp
    refine W.cs (cells' := 1) (slots' := 6) rfl rfl ?_
    refine lv_i2l S.1 S.2.1 dL_publish_8 rfl ?_
    obtain ⟨a6, e7, h⟩ := h
    refine mz_o2 e7 ?_
    obtain ⟨k8, h⟩ := h
    obtain ⟨b9, h⟩ := h
    refine mz_last S hG hM hS dL_publish_9 k8 b9 (fun H locs hM hS hz9 => ?_)
    refine lv_goto (tgt := 25) S.1 S.2.1 dL_publish_10 (by decide) ?_
    refine lv_iconst (v := (nI 0)) S.1 S.2.1 dL_publish_25 (by decide) ?_
    exact mz_iret S hr hlk hM hS rfl (Nat.le_of_ble_eq_true rfl) (Nat.le_of_ble_eq_true rfl) dL_publish_26 ⟨_, rfl, h⟩
set_option maxRecDepth 100000 in
set_option maxHeartbeats 4000000 in
theorem c_L_read {l : Launch} {G : mgT} {μ : mmT} {r0 : Option Nat} {x1 : Int32} {r2 : Option Nat} {Q : Int32 → mmT → Prop} (hl0 : l.stackTraces = false) (h : w_L_read G μ r0 x1 r2 Q) : MH G l yL_read cL_read 4 (some .int) [(0, 9, 12, 24), (0, 9, 15, 30)] { frames := 8, cells := 1, slots := 6, locals := 166 } [va_rf r0, .int x1, va_rf r2] μ (pI Q) := by
  refine mz_MH (by decide +kernel) (by simp [lg_sl, mz_cat, mz_cr, mz_ci, mz_cl, mz_cf, mz_cd, mz_cn]) (fun p e s m args below meth c S hG hr hlk hnm htab => ?_)
  intro H locs ls hM hS hl
  have hl : lv_has ls 4 [(0, va_rf r0), (1, .int x1), (2, va_rf r2)] := by simpa [lv_args, mz_cat, mz_cr, mz_ci, mz_cl, mz_cf, mz_cd, mz_cn] using hl
  unfold w_L_read at h
  refine mz_aload_n (x := r2) S.1 S.2.1 dL_read_0 rfl (lv_at hl 2 rfl) ?_
  refine lv_iconst (v := (nI 0)) S.1 S.2.1 dL_read_1 (by decide) ?_
  refine mz_aload_n (x := r0) S.1 S.2.1 dL_read_2 rfl (lv_at hl 0 rfl) ?_
  refine lv_iload_n S.1 S.2.1 dL_read_3 rfl (lv_at hl 1 rfl) ?_
  obtain ⟨a1, e2, h⟩ := h
  refine mz_o1 e2 ?_
  obtain ⟨k3, h⟩ := h
  refine mz_VX S hG hM hS cf_9 k3 (As := [.int x1]) (rest := [.int (nI 0), va_rf r2]) (c_X10_read hl0 h) yf_X10_read tw_965 tw_966 tw_967 ⟨Nat.le_of_ble_eq_true rfl, Nat.le_of_ble_eq_true rfl⟩ ⟨(Nat.le_of_ble_eq_true rfl), (Nat.le_of_ble_eq_true rfl)⟩ rfl hl.1 rfl (by simp [mz_cat, mz_cr, mz_ci, mz_cl, mz_cf, mz_cd, mz_cn]) dL_read_4 (fun E ce q9 μ9 H locs hp hM hS hc9 hv9 hcl9 => ?_) (fun v9 μ5 H locs hp hM hS => ?_)
  · have h := hp
    rcases h with ⟨rfl, h⟩ | h
    · refine vx_catch S.2.2.2.1 (name := "java/lang/IndexOutOfBoundsException") [] ⟨0, 9, 12, 24⟩ [⟨0, 9, 15, 30⟩] (by rw [htab]; rfl) (fun z hz => absurd hz List.not_mem_nil) (by decide) (by decide) (S.2.2.2.2 _ tw_942) (hG.cast (i := 896) (by decide +kernel)) hc9 hv9 hcl9 ?_
      refine W.cs (cells' := 1) (slots' := 6) rfl rfl ?_
      refine lv_astore_n (i := 3) (lv' := [(3, .ref q9), (0, va_rf r0), (1, .int x1), (2, va_rf r2)]) S.1 S.2.1 dL_read_12 rfl hl (by decide) (by simp [List.filter, mz_cat]) (fun ls hl => ?_)
      refine lv_iconst (v := (nI 1)) S.1 S.2.1 dL_read_13 (by decide) ?_
      exact mz_iret S hr hlk hM hS rfl (Nat.le_of_ble_eq_true rfl) (Nat.le_of_ble_eq_true rfl) dL_read_14 ⟨_, rfl, h⟩
    obtain ⟨rfl, h⟩ := h
    refine vx_catch S.2.2.2.1 (name := "java/util/NoSuchElementException") [⟨0, 9, 12, 24⟩] ⟨0, 9, 15, 30⟩ [] (by rw [htab]; rfl) (fun z hz => (List.mem_cons.mp hz).elim (fun e9 => by subst e9; exact Or.inr ⟨by decide, "java/lang/IndexOutOfBoundsException", S.2.2.2.2 _ tw_942, hG.nc (by decide)⟩) (fun hz => absurd hz List.not_mem_nil)) (by decide) (by decide) (S.2.2.2.2 _ tw_964) (hG.cast (i := 909) (by decide +kernel)) hc9 hv9 hcl9 ?_
    refine W.cs (cells' := 1) (slots' := 6) rfl rfl ?_
    refine lv_astore_n (i := 3) (lv' := [(3, .ref q9), (0, va_rf r0), (1, .int x1), (2, va_rf r2)]) S.1 S.2.1 dL_read_15 rfl hl (by decide) (by simp [List.filter, mz_cat]) (fun ls hl => ?_)
    refine lv_iconst (v := (nI 2)) S.1 S.2.1 dL_read_16 (by decide) ?_
    exact mz_iret S hr hlk hM hS rfl (Nat.le_of_ble_eq_true rfl) (Nat.le_of_ble_eq_true rfl) dL_read_17 ⟨_, rfl, h⟩
  · obtain ⟨u4, rfl, h⟩ := hp
    refine W.cs (cells' := 1) (slots' := 6) rfl rfl ?_
    refine lv_i2l S.1 S.2.1 dL_read_7 rfl ?_
    obtain ⟨a6, e7, h⟩ := h
    refine mz_o2 e7 ?_
    obtain ⟨k8, h⟩ := h
    obtain ⟨b9, h⟩ := h
    refine mz_last S hG hM hS dL_read_8 k8 b9 (fun H locs hM hS hz9 => ?_)
    refine lv_goto (tgt := 18) S.1 S.2.1 dL_read_9 (by decide) ?_
    refine lv_iconst (v := (nI 0)) S.1 S.2.1 dL_read_18 (by decide) ?_
    exact mz_iret S hr hlk hM hS rfl (Nat.le_of_ble_eq_true rfl) (Nat.le_of_ble_eq_true rfl) dL_read_19 ⟨_, rfl, h⟩
set_option maxRecDepth 100000 in
set_option maxHeartbeats 4000000 in
theorem c_L_cancel {l : Launch} {G : mgT} {μ : mmT} {r0 : Option Nat} {x1 : Int32} {r2 : Option Nat} {Q : Int32 → mmT → Prop} (hl0 : l.stackTraces = false) (h : w_L_cancel G μ r0 x1 r2 Q) : MH G l yL_cancel cL_cancel 4 (some .int) [(0, 9, 12, 30), (0, 9, 15, 15)] { frames := 8, cells := 1, slots := 6, locals := 166 } [va_rf r0, .int x1, va_rf r2] μ (pI Q) := by
  refine mz_MH (by decide +kernel) (by simp [lg_sl, mz_cat, mz_cr, mz_ci, mz_cl, mz_cf, mz_cd, mz_cn]) (fun p e s m args below meth c S hG hr hlk hnm htab => ?_)
  intro H locs ls hM hS hl
  have hl : lv_has ls 4 [(0, va_rf r0), (1, .int x1), (2, va_rf r2)] := by simpa [lv_args, mz_cat, mz_cr, mz_ci, mz_cl, mz_cf, mz_cd, mz_cn] using hl
  unfold w_L_cancel at h
  refine mz_aload_n (x := r2) S.1 S.2.1 dL_cancel_0 rfl (lv_at hl 2 rfl) ?_
  refine lv_iconst (v := (nI 0)) S.1 S.2.1 dL_cancel_1 (by decide) ?_
  refine mz_aload_n (x := r0) S.1 S.2.1 dL_cancel_2 rfl (lv_at hl 0 rfl) ?_
  refine lv_iload_n S.1 S.2.1 dL_cancel_3 rfl (lv_at hl 1 rfl) ?_
  obtain ⟨a1, e2, h⟩ := h
  refine mz_o1 e2 ?_
  obtain ⟨k3, h⟩ := h
  refine mz_VX S hG hM hS cf_9 k3 (As := [.int x1]) (rest := [.int (nI 0), va_rf r2]) (c_X10_cancel hl0 h) yf_X10_cancel tw_988 tw_989 tw_990 ⟨Nat.le_of_ble_eq_true rfl, Nat.le_of_ble_eq_true rfl⟩ ⟨(Nat.le_of_ble_eq_true rfl), (Nat.le_of_ble_eq_true rfl)⟩ rfl hl.1 rfl (by simp [mz_cat, mz_cr, mz_ci, mz_cl, mz_cf, mz_cd, mz_cn]) dL_cancel_4 (fun E ce q9 μ9 H locs hp hM hS hc9 hv9 hcl9 => ?_) (fun v9 μ5 H locs hp hM hS => ?_)
  · have h := hp
    rcases h with ⟨rfl, h⟩ | h
    · refine vx_catch S.2.2.2.1 (name := "java/util/NoSuchElementException") [] ⟨0, 9, 12, 30⟩ [⟨0, 9, 15, 15⟩] (by rw [htab]; rfl) (fun z hz => absurd hz List.not_mem_nil) (by decide) (by decide) (S.2.2.2.2 _ tw_964) (hG.cast (i := 909) (by decide +kernel)) hc9 hv9 hcl9 ?_
      refine W.cs (cells' := 1) (slots' := 6) rfl rfl ?_
      refine lv_astore_n (i := 3) (lv' := [(3, .ref q9), (0, va_rf r0), (1, .int x1), (2, va_rf r2)]) S.1 S.2.1 dL_cancel_12 rfl hl (by decide) (by simp [List.filter, mz_cat]) (fun ls hl => ?_)
      refine lv_iconst (v := (nI 1)) S.1 S.2.1 dL_cancel_13 (by decide) ?_
      exact mz_iret S hr hlk hM hS rfl (Nat.le_of_ble_eq_true rfl) (Nat.le_of_ble_eq_true rfl) dL_cancel_14 ⟨_, rfl, h⟩
    obtain ⟨rfl, h⟩ := h
    refine vx_catch S.2.2.2.1 (name := "java/lang/IllegalStateException") [⟨0, 9, 12, 30⟩] ⟨0, 9, 15, 15⟩ [] (by rw [htab]; rfl) (fun z hz => (List.mem_cons.mp hz).elim (fun e9 => by subst e9; exact Or.inr ⟨by decide, "java/util/NoSuchElementException", S.2.2.2.2 _ tw_964, hG.nc (by decide)⟩) (fun hz => absurd hz List.not_mem_nil)) (by decide) (by decide) (S.2.2.2.2 _ tw_858) (hG.cast (i := 880) (by decide +kernel)) hc9 hv9 hcl9 ?_
    refine W.cs (cells' := 1) (slots' := 6) rfl rfl ?_
    refine lv_astore_n (i := 3) (lv' := [(3, .ref q9), (0, va_rf r0), (1, .int x1), (2, va_rf r2)]) S.1 S.2.1 dL_cancel_15 rfl hl (by decide) (by simp [List.filter, mz_cat]) (fun ls hl => ?_)
    refine lv_iconst (v := (nI 2)) S.1 S.2.1 dL_cancel_16 (by decide) ?_
    exact mz_iret S hr hlk hM hS rfl (Nat.le_of_ble_eq_true rfl) (Nat.le_of_ble_eq_true rfl) dL_cancel_17 ⟨_, rfl, h⟩
  · obtain ⟨u4, rfl, h⟩ := hp
    refine W.cs (cells' := 1) (slots' := 6) rfl rfl ?_
    refine lv_i2l S.1 S.2.1 dL_cancel_7 rfl ?_
    obtain ⟨a6, e7, h⟩ := h
    refine mz_o2 e7 ?_
    obtain ⟨k8, h⟩ := h
    obtain ⟨b9, h⟩ := h
    refine mz_last S hG hM hS dL_cancel_8 k8 b9 (fun H locs hM hS hz9 => ?_)
    refine lv_goto (tgt := 18) S.1 S.2.1 dL_cancel_9 (by decide) ?_
    refine lv_iconst (v := (nI 0)) S.1 S.2.1 dL_cancel_18 (by decide) ?_
    exact mz_iret S hr hlk hM hS rfl (Nat.le_of_ble_eq_true rfl) (Nat.le_of_ble_eq_true rfl) dL_cancel_19 ⟨_, rfl, h⟩
set_option maxRecDepth 100000 in
set_option maxHeartbeats 4000000 in
theorem c_L_setWind {l : Launch} {G : mgT} {μ : mmT} {r0 : Option Nat} {x1 : Int32} {r2 : Option Nat} {Q : Int32 → mmT → Prop} (hl0 : l.stackTraces = false) (h : w_L_setWind G μ r0 x1 r2 Q) : MH G l yL_setWind cL_setWind 4 (some .int) [(0, 9, 12, 13)] { frames := 8, cells := 1, slots := 6, locals := 166 } [va_rf r0, .int x1, va_rf r2] μ (pI Q) := by
  refine mz_MH (by decide +kernel) (by simp [lg_sl, mz_cat, mz_cr, mz_ci, mz_cl, mz_cf, mz_cd, mz_cn]) (fun p e s m args below meth c S hG hr hlk hnm htab => ?_)
  intro H locs ls hM hS hl
  have hl : lv_has ls 4 [(0, va_rf r0), (1, .int x1), (2, va_rf r2)] := by simpa [lv_args, mz_cat, mz_cr, mz_ci, mz_cl, mz_cf, mz_cd, mz_cn] using hl
  unfold w_L_setWind at h
  refine mz_aload_n (x := r2) S.1 S.2.1 dL_setWind_0 rfl (lv_at hl 2 rfl) ?_
  refine lv_iconst (v := (nI 0)) S.1 S.2.1 dL_setWind_1 (by decide) ?_
  refine mz_aload_n (x := r0) S.1 S.2.1 dL_setWind_2 rfl (lv_at hl 0 rfl) ?_
  refine lv_iload_n S.1 S.2.1 dL_setWind_3 rfl (lv_at hl 1 rfl) ?_
  obtain ⟨a1, e2, h⟩ := h
  refine mz_o1 e2 ?_
  obtain ⟨k3, h⟩ := h
  refine mz_VX S hG hM hS cf_9 k3 (As := [.int x1]) (rest := [.int (nI 0), va_rf r2]) (c_X10_setWind hl0 h) yf_X10_setWind tw_1003 tw_1004 tw_1005 ⟨Nat.le_of_ble_eq_true rfl, Nat.le_of_ble_eq_true rfl⟩ ⟨(Nat.le_of_ble_eq_true rfl), (Nat.le_of_ble_eq_true rfl)⟩ rfl hl.1 rfl (by simp [mz_cat, mz_cr, mz_ci, mz_cl, mz_cf, mz_cd, mz_cn]) dL_setWind_4 (fun E ce q9 μ9 H locs hp hM hS hc9 hv9 hcl9 => ?_) (fun v9 μ5 H locs hp hM hS => ?_)
  · have h := hp
    obtain ⟨rfl, h⟩ := h
    refine vx_catch S.2.2.2.1 (name := "java/lang/IllegalArgumentException") [] ⟨0, 9, 12, 13⟩ [] (by rw [htab]; rfl) (fun z hz => absurd hz List.not_mem_nil) (by decide) (by decide) (S.2.2.2.2 _ tw_857) (hG.cast (i := 657) (by decide +kernel)) hc9 hv9 hcl9 ?_
    refine W.cs (cells' := 1) (slots' := 6) rfl rfl ?_
    refine lv_astore_n (i := 3) (lv' := [(3, .ref q9), (0, va_rf r0), (1, .int x1), (2, va_rf r2)]) S.1 S.2.1 dL_setWind_12 rfl hl (by decide) (by simp [List.filter, mz_cat]) (fun ls hl => ?_)
    refine lv_iconst (v := (nI 1)) S.1 S.2.1 dL_setWind_13 (by decide) ?_
    exact mz_iret S hr hlk hM hS rfl (Nat.le_of_ble_eq_true rfl) (Nat.le_of_ble_eq_true rfl) dL_setWind_14 ⟨_, rfl, h⟩
  · obtain ⟨u4, rfl, h⟩ := hp
    refine W.cs (cells' := 1) (slots' := 6) rfl rfl ?_
    refine lv_i2l S.1 S.2.1 dL_setWind_7 rfl ?_
    obtain ⟨a6, e7, h⟩ := h
    refine mz_o2 e7 ?_
    obtain ⟨k8, h⟩ := h
    obtain ⟨b9, h⟩ := h
    refine mz_last S hG hM hS dL_setWind_8 k8 b9 (fun H locs hM hS hz9 => ?_)
    refine lv_goto (tgt := 15) S.1 S.2.1 dL_setWind_9 (by decide) ?_
    refine lv_iconst (v := (nI 0)) S.1 S.2.1 dL_setWind_15 (by decide) ?_
    exact mz_iret S hr hlk hM hS rfl (Nat.le_of_ble_eq_true rfl) (Nat.le_of_ble_eq_true rfl) dL_setWind_16 ⟨_, rfl, h⟩
set_option maxRecDepth 100000 in
set_option maxHeartbeats 4000000 in
theorem c_L_forget {l : Launch} {G : mgT} {μ : mmT} {r0 : Option Nat} {x1 : Int32} {r2 : Option Nat} {Q : Int32 → mmT → Prop} (hl0 : l.stackTraces = false) (h : w_L_forget G μ r0 x1 r2 Q) : MH G l yL_forget cL_forget 4 (some .int) [(0, 9, 12, 24)] { frames := 8, cells := 1, slots := 6, locals := 166 } [va_rf r0, .int x1, va_rf r2] μ (pI Q) := by
  refine mz_MH (by decide +kernel) (by simp [lg_sl, mz_cat, mz_cr, mz_ci, mz_cl, mz_cf, mz_cd, mz_cn]) (fun p e s m args below meth c S hG hr hlk hnm htab => ?_)
  intro H locs ls hM hS hl
  have hl : lv_has ls 4 [(0, va_rf r0), (1, .int x1), (2, va_rf r2)] := by simpa [lv_args, mz_cat, mz_cr, mz_ci, mz_cl, mz_cf, mz_cd, mz_cn] using hl
  unfold w_L_forget at h
  refine mz_aload_n (x := r2) S.1 S.2.1 dL_forget_0 rfl (lv_at hl 2 rfl) ?_
  refine lv_iconst (v := (nI 0)) S.1 S.2.1 dL_forget_1 (by decide) ?_
  refine mz_aload_n (x := r0) S.1 S.2.1 dL_forget_2 rfl (lv_at hl 0 rfl) ?_
  refine lv_iload_n S.1 S.2.1 dL_forget_3 rfl (lv_at hl 1 rfl) ?_
  obtain ⟨a1, e2, h⟩ := h
  refine mz_o1 e2 ?_
  obtain ⟨k3, h⟩ := h
  refine mz_VX S hG hM hS cf_9 k3 (As := [.int x1]) (rest := [.int (nI 0), va_rf r2]) (c_X10_forget hl0 h) yf_X10_forget tw_1014 tw_1015 tw_1016 ⟨Nat.le_of_ble_eq_true rfl, Nat.le_of_ble_eq_true rfl⟩ ⟨(Nat.le_of_ble_eq_true rfl), (Nat.le_of_ble_eq_true rfl)⟩ rfl hl.1 rfl (by simp [mz_cat, mz_cr, mz_ci, mz_cl, mz_cf, mz_cd, mz_cn]) dL_forget_4 (fun E ce q9 μ9 H locs hp hM hS hc9 hv9 hcl9 => ?_) (fun v9 μ5 H locs hp hM hS => ?_)
  · have h := hp
    obtain ⟨rfl, h⟩ := h
    refine vx_catch S.2.2.2.1 (name := "java/lang/IndexOutOfBoundsException") [] ⟨0, 9, 12, 24⟩ [] (by rw [htab]; rfl) (fun z hz => absurd hz List.not_mem_nil) (by decide) (by decide) (S.2.2.2.2 _ tw_942) (hG.cast (i := 896) (by decide +kernel)) hc9 hv9 hcl9 ?_
    refine W.cs (cells' := 1) (slots' := 6) rfl rfl ?_
    refine lv_astore_n (i := 3) (lv' := [(3, .ref q9), (0, va_rf r0), (1, .int x1), (2, va_rf r2)]) S.1 S.2.1 dL_forget_12 rfl hl (by decide) (by simp [List.filter, mz_cat]) (fun ls hl => ?_)
    refine lv_iconst (v := (nI 1)) S.1 S.2.1 dL_forget_13 (by decide) ?_
    exact mz_iret S hr hlk hM hS rfl (Nat.le_of_ble_eq_true rfl) (Nat.le_of_ble_eq_true rfl) dL_forget_14 ⟨_, rfl, h⟩
  · obtain ⟨u4, rfl, h⟩ := hp
    refine W.cs (cells' := 1) (slots' := 6) rfl rfl ?_
    refine lv_i2l S.1 S.2.1 dL_forget_7 rfl ?_
    obtain ⟨a6, e7, h⟩ := h
    refine mz_o2 e7 ?_
    obtain ⟨k8, h⟩ := h
    obtain ⟨b9, h⟩ := h
    refine mz_last S hG hM hS dL_forget_8 k8 b9 (fun H locs hM hS hz9 => ?_)
    refine lv_goto (tgt := 15) S.1 S.2.1 dL_forget_9 (by decide) ?_
    refine lv_iconst (v := (nI 0)) S.1 S.2.1 dL_forget_15 (by decide) ?_
    exact mz_iret S hr hlk hM hS rfl (Nat.le_of_ble_eq_true rfl) (Nat.le_of_ble_eq_true rfl) dL_forget_16 ⟨_, rfl, h⟩
set_option maxRecDepth 100000 in
set_option maxHeartbeats 4000000 in
theorem c_L_advance {l : Launch} {G : mgT} {μ : mmT} {r0 : Option Nat} {x1 : Int32} {r2 : Option Nat} {Q : Int32 → mmT → Prop} (hl0 : l.stackTraces = false) (h : w_L_advance G μ r0 x1 r2 Q) : MH G l yL_advance cL_advance 4 (some .int) [(0, 9, 12, 13)] { frames := 8, cells := 1, slots := 6, locals := 193 } [va_rf r0, .int x1, va_rf r2] μ (pI Q) := by
  refine mz_MH (by decide +kernel) (by simp [lg_sl, mz_cat, mz_cr, mz_ci, mz_cl, mz_cf, mz_cd, mz_cn]) (fun p e s m args below meth c S hG hr hlk hnm htab => ?_)
  intro H locs ls hM hS hl
  have hl : lv_has ls 4 [(0, va_rf r0), (1, .int x1), (2, va_rf r2)] := by simpa [lv_args, mz_cat, mz_cr, mz_ci, mz_cl, mz_cf, mz_cd, mz_cn] using hl
  unfold w_L_advance at h
  refine mz_aload_n (x := r2) S.1 S.2.1 dL_advance_0 rfl (lv_at hl 2 rfl) ?_
  refine lv_iconst (v := (nI 0)) S.1 S.2.1 dL_advance_1 (by decide) ?_
  refine mz_aload_n (x := r0) S.1 S.2.1 dL_advance_2 rfl (lv_at hl 0 rfl) ?_
  refine lv_iload_n S.1 S.2.1 dL_advance_3 rfl (lv_at hl 1 rfl) ?_
  obtain ⟨a1, e2, h⟩ := h
  refine mz_o1 e2 ?_
  obtain ⟨k3, h⟩ := h
  refine mz_VX S hG hM hS cf_9 k3 (As := [.int x1]) (rest := [.int (nI 0), va_rf r2]) (c_X10_advance hl0 h) yf_X10_advance tw_1025 tw_1026 tw_1027 ⟨Nat.le_of_ble_eq_true rfl, Nat.le_of_ble_eq_true rfl⟩ ⟨(Nat.le_of_ble_eq_true rfl), (Nat.le_of_ble_eq_true rfl)⟩ rfl hl.1 rfl (by simp [mz_cat, mz_cr, mz_ci, mz_cl, mz_cf, mz_cd, mz_cn]) dL_advance_4 (fun E ce q9 μ9 H locs hp hM hS hc9 hv9 hcl9 => ?_) (fun v9 μ5 H locs hp hM hS => ?_)
  · have h := hp
    obtain ⟨rfl, h⟩ := h
    refine vx_catch S.2.2.2.1 (name := "java/lang/IllegalArgumentException") [] ⟨0, 9, 12, 13⟩ [] (by rw [htab]; rfl) (fun z hz => absurd hz List.not_mem_nil) (by decide) (by decide) (S.2.2.2.2 _ tw_857) (hG.cast (i := 657) (by decide +kernel)) hc9 hv9 hcl9 ?_
    refine W.cs (cells' := 1) (slots' := 6) rfl rfl ?_
    refine lv_astore_n (i := 3) (lv' := [(3, .ref q9), (0, va_rf r0), (1, .int x1), (2, va_rf r2)]) S.1 S.2.1 dL_advance_12 rfl hl (by decide) (by simp [List.filter, mz_cat]) (fun ls hl => ?_)
    refine lv_iconst (v := (nI 1)) S.1 S.2.1 dL_advance_13 (by decide) ?_
    exact mz_iret S hr hlk hM hS rfl (Nat.le_of_ble_eq_true rfl) (Nat.le_of_ble_eq_true rfl) dL_advance_14 ⟨_, rfl, h⟩
  · obtain ⟨u4, rfl, h⟩ := hp
    refine W.cs (cells' := 1) (slots' := 6) rfl rfl ?_
    refine lv_i2l S.1 S.2.1 dL_advance_7 rfl ?_
    obtain ⟨a6, e7, h⟩ := h
    refine mz_o2 e7 ?_
    obtain ⟨k8, h⟩ := h
    obtain ⟨b9, h⟩ := h
    refine mz_last S hG hM hS dL_advance_8 k8 b9 (fun H locs hM hS hz9 => ?_)
    refine lv_goto (tgt := 15) S.1 S.2.1 dL_advance_9 (by decide) ?_
    refine lv_iconst (v := (nI 0)) S.1 S.2.1 dL_advance_15 (by decide) ?_
    exact mz_iret S hr hlk hM hS rfl (Nat.le_of_ble_eq_true rfl) (Nat.le_of_ble_eq_true rfl) dL_advance_16 ⟨_, rfl, h⟩
set_option maxRecDepth 100000 in
set_option maxHeartbeats 4000000 in
theorem c_L_distance {l : Launch} {G : mgT} {μ : mmT} {r0 : Option Nat} {x1 : Int32} {r2 : Option Nat} {Q : Int32 → mmT → Prop} (hl0 : l.stackTraces = false) (h : w_L_distance G μ r0 x1 r2 Q) : MH G l yL_distance cL_distance 4 (some .int) [(0, 9, 12, 24)] { frames := 8, cells := 1, slots := 6, locals := 143 } [va_rf r0, .int x1, va_rf r2] μ (pI Q) := by
  refine mz_MH (by decide +kernel) (by simp [lg_sl, mz_cat, mz_cr, mz_ci, mz_cl, mz_cf, mz_cd, mz_cn]) (fun p e s m args below meth c S hG hr hlk hnm htab => ?_)
  intro H locs ls hM hS hl
  have hl : lv_has ls 4 [(0, va_rf r0), (1, .int x1), (2, va_rf r2)] := by simpa [lv_args, mz_cat, mz_cr, mz_ci, mz_cl, mz_cf, mz_cd, mz_cn] using hl
  unfold w_L_distance at h
  refine mz_aload_n (x := r2) S.1 S.2.1 dL_distance_0 rfl (lv_at hl 2 rfl) ?_
  refine lv_iconst (v := (nI 0)) S.1 S.2.1 dL_distance_1 (by decide) ?_
  refine mz_aload_n (x := r0) S.1 S.2.1 dL_distance_2 rfl (lv_at hl 0 rfl) ?_
  refine lv_iload_n S.1 S.2.1 dL_distance_3 rfl (lv_at hl 1 rfl) ?_
  obtain ⟨a1, e2, h⟩ := h
  refine mz_o1 e2 ?_
  obtain ⟨k3, h⟩ := h
  refine mz_VX S hG hM hS cf_9 k3 (As := [.int x1]) (rest := [.int (nI 0), va_rf r2]) (c_X10_distance hl0 h) yf_X10_distance tw_1082 tw_1083 tw_1084 ⟨Nat.le_of_ble_eq_true rfl, Nat.le_of_ble_eq_true rfl⟩ ⟨(Nat.le_of_ble_eq_true rfl), (Nat.le_of_ble_eq_true rfl)⟩ rfl hl.1 rfl (by simp [mz_cat, mz_cr, mz_ci, mz_cl, mz_cf, mz_cd, mz_cn]) dL_distance_4 (fun E ce q9 μ9 H locs hp hM hS hc9 hv9 hcl9 => ?_) (fun v9 μ9 H locs hp hM hS => ?_)
  · obtain ⟨e9, h⟩ := hp
    rw [e9] at hM
    obtain ⟨rfl, h⟩ := h
    refine vx_catch S.2.2.2.1 (name := "java/lang/IndexOutOfBoundsException") [] ⟨0, 9, 12, 24⟩ [] (by rw [htab]; rfl) (fun z hz => absurd hz List.not_mem_nil) (by decide) (by decide) (S.2.2.2.2 _ tw_942) (hG.cast (i := 896) (by decide +kernel)) hc9 hv9 hcl9 ?_
    refine W.cs (cells' := 1) (slots' := 6) rfl rfl ?_
    refine lv_astore_n (i := 3) (lv' := [(3, .ref q9), (0, va_rf r0), (1, .int x1), (2, va_rf r2)]) S.1 S.2.1 dL_distance_12 rfl hl (by decide) (by simp [List.filter, mz_cat]) (fun ls hl => ?_)
    refine lv_iconst (v := (nI 1)) S.1 S.2.1 dL_distance_13 (by decide) ?_
    exact mz_iret S hr hlk hM hS rfl (Nat.le_of_ble_eq_true rfl) (Nat.le_of_ble_eq_true rfl) dL_distance_14 ⟨_, rfl, h⟩
  · obtain ⟨u4, rfl, e9, h⟩ := hp
    rw [e9] at hM
    refine W.cs (cells' := 1) (slots' := 6) rfl rfl ?_
    refine lv_i2l S.1 S.2.1 dL_distance_7 rfl ?_
    obtain ⟨a5, e6, h⟩ := h
    refine mz_o2 e6 ?_
    obtain ⟨k7, h⟩ := h
    obtain ⟨b8, h⟩ := h
    refine mz_last S hG hM hS dL_distance_8 k7 b8 (fun H locs hM hS hz9 => ?_)
    refine lv_goto (tgt := 15) S.1 S.2.1 dL_distance_9 (by decide) ?_
    refine lv_iconst (v := (nI 0)) S.1 S.2.1 dL_distance_15 (by decide) ?_
    exact mz_iret S hr hlk hM hS rfl (Nat.le_of_ble_eq_true rfl) (Nat.le_of_ble_eq_true rfl) dL_distance_16 ⟨_, rfl, h⟩
set_option maxRecDepth 100000 in
set_option maxHeartbeats 4000000 in
theorem c_L_loss {l : Launch} {G : mgT} {μ : mmT} {r0 : Option Nat} {x1 : Int32} {r2 : Option Nat} {Q : Int32 → mmT → Prop} (hl0 : l.stackTraces = false) (h : w_L_loss G μ r0 x1 r2 Q) : MH G l yL_loss cL_loss 4 (some .int) [(0, 9, 12, 24)] { frames := 8, cells := 1, slots := 6, locals := 143 } [va_rf r0, .int x1, va_rf r2] μ (pI Q) := by
  refine mz_MH (by decide +kernel) (by simp [lg_sl, mz_cat, mz_cr, mz_ci, mz_cl, mz_cf, mz_cd, mz_cn]) (fun p e s m args below meth c S hG hr hlk hnm htab => ?_)
  intro H locs ls hM hS hl
  have hl : lv_has ls 4 [(0, va_rf r0), (1, .int x1), (2, va_rf r2)] := by simpa [lv_args, mz_cat, mz_cr, mz_ci, mz_cl, mz_cf, mz_cd, mz_cn] using hl
  unfold w_L_loss at h
  refine mz_aload_n (x := r2) S.1 S.2.1 dL_loss_0 rfl (lv_at hl 2 rfl) ?_
  refine lv_iconst (v := (nI 0)) S.1 S.2.1 dL_loss_1 (by decide) ?_
  refine mz_aload_n (x := r0) S.1 S.2.1 dL_loss_2 rfl (lv_at hl 0 rfl) ?_
  refine lv_iload_n S.1 S.2.1 dL_loss_3 rfl (lv_at hl 1 rfl) ?_
  obtain ⟨a1, e2, h⟩ := h
  refine mz_o1 e2 ?_
  obtain ⟨k3, h⟩ := h
  refine mz_VX S hG hM hS cf_9 k3 (As := [.int x1]) (rest := [.int (nI 0), va_rf r2]) (c_X10_loss hl0 h) yf_X10_loss tw_1094 tw_1095 tw_1096 ⟨Nat.le_of_ble_eq_true rfl, Nat.le_of_ble_eq_true rfl⟩ ⟨(Nat.le_of_ble_eq_true rfl), (Nat.le_of_ble_eq_true rfl)⟩ rfl hl.1 rfl (by simp [mz_cat, mz_cr, mz_ci, mz_cl, mz_cf, mz_cd, mz_cn]) dL_loss_4 (fun E ce q9 μ9 H locs hp hM hS hc9 hv9 hcl9 => ?_) (fun v9 μ9 H locs hp hM hS => ?_)
  · obtain ⟨e9, h⟩ := hp
    rw [e9] at hM
    obtain ⟨rfl, h⟩ := h
    refine vx_catch S.2.2.2.1 (name := "java/lang/IndexOutOfBoundsException") [] ⟨0, 9, 12, 24⟩ [] (by rw [htab]; rfl) (fun z hz => absurd hz List.not_mem_nil) (by decide) (by decide) (S.2.2.2.2 _ tw_942) (hG.cast (i := 896) (by decide +kernel)) hc9 hv9 hcl9 ?_
    refine W.cs (cells' := 1) (slots' := 6) rfl rfl ?_
    refine lv_astore_n (i := 3) (lv' := [(3, .ref q9), (0, va_rf r0), (1, .int x1), (2, va_rf r2)]) S.1 S.2.1 dL_loss_12 rfl hl (by decide) (by simp [List.filter, mz_cat]) (fun ls hl => ?_)
    refine lv_iconst (v := (nI 1)) S.1 S.2.1 dL_loss_13 (by decide) ?_
    exact mz_iret S hr hlk hM hS rfl (Nat.le_of_ble_eq_true rfl) (Nat.le_of_ble_eq_true rfl) dL_loss_14 ⟨_, rfl, h⟩
  · obtain ⟨u4, rfl, e9, h⟩ := hp
    rw [e9] at hM
    refine W.cs (cells' := 1) (slots' := 6) rfl rfl ?_
    refine lv_i2l S.1 S.2.1 dL_loss_7 rfl ?_
    obtain ⟨a5, e6, h⟩ := h
    refine mz_o2 e6 ?_
    obtain ⟨k7, h⟩ := h
    obtain ⟨b8, h⟩ := h
    refine mz_last S hG hM hS dL_loss_8 k7 b8 (fun H locs hM hS hz9 => ?_)
    refine lv_goto (tgt := 15) S.1 S.2.1 dL_loss_9 (by decide) ?_
    refine lv_iconst (v := (nI 0)) S.1 S.2.1 dL_loss_15 (by decide) ?_
    exact mz_iret S hr hlk hM hS rfl (Nat.le_of_ble_eq_true rfl) (Nat.le_of_ble_eq_true rfl) dL_loss_16 ⟨_, rfl, h⟩
set_option maxRecDepth 100000 in
set_option maxHeartbeats 4000000 in
theorem c_L_inboxSize {l : Launch} {G : mgT} {μ : mmT} {r0 : Option Nat} {x1 : Int32} {r2 : Option Nat} {Q : Int32 → mmT → Prop} (hl0 : l.stackTraces = false) (h : w_L_inboxSize G μ r0 x1 r2 Q) : MH G l yL_inboxSize cL_inboxSize 4 (some .int) [(0, 9, 12, 24)] { frames := 8, cells := 1, slots := 6, locals := 143 } [va_rf r0, .int x1, va_rf r2] μ (pI Q) := by
  refine mz_MH (by decide +kernel) (by simp [lg_sl, mz_cat, mz_cr, mz_ci, mz_cl, mz_cf, mz_cd, mz_cn]) (fun p e s m args below meth c S hG hr hlk hnm htab => ?_)
  intro H locs ls hM hS hl
  have hl : lv_has ls 4 [(0, va_rf r0), (1, .int x1), (2, va_rf r2)] := by simpa [lv_args, mz_cat, mz_cr, mz_ci, mz_cl, mz_cf, mz_cd, mz_cn] using hl
  unfold w_L_inboxSize at h
  refine mz_aload_n (x := r2) S.1 S.2.1 dL_inboxSize_0 rfl (lv_at hl 2 rfl) ?_
  refine lv_iconst (v := (nI 0)) S.1 S.2.1 dL_inboxSize_1 (by decide) ?_
  refine mz_aload_n (x := r0) S.1 S.2.1 dL_inboxSize_2 rfl (lv_at hl 0 rfl) ?_
  refine lv_iload_n S.1 S.2.1 dL_inboxSize_3 rfl (lv_at hl 1 rfl) ?_
  obtain ⟨a1, e2, h⟩ := h
  refine mz_o1 e2 ?_
  obtain ⟨k3, h⟩ := h
  refine mz_VX S hG hM hS cf_9 k3 (As := [.int x1]) (rest := [.int (nI 0), va_rf r2]) (c_X10_inboxSize hl0 h) yf_X10_inboxSize tw_1101 tw_1102 tw_1103 ⟨Nat.le_of_ble_eq_true rfl, Nat.le_of_ble_eq_true rfl⟩ ⟨(Nat.le_of_ble_eq_true rfl), (Nat.le_of_ble_eq_true rfl)⟩ rfl hl.1 rfl (by simp [mz_cat, mz_cr, mz_ci, mz_cl, mz_cf, mz_cd, mz_cn]) dL_inboxSize_4 (fun E ce q9 μ9 H locs hp hM hS hc9 hv9 hcl9 => ?_) (fun v9 μ9 H locs hp hM hS => ?_)
  · obtain ⟨e9, h⟩ := hp
    rw [e9] at hM
    obtain ⟨rfl, h⟩ := h
    refine vx_catch S.2.2.2.1 (name := "java/lang/IndexOutOfBoundsException") [] ⟨0, 9, 12, 24⟩ [] (by rw [htab]; rfl) (fun z hz => absurd hz List.not_mem_nil) (by decide) (by decide) (S.2.2.2.2 _ tw_942) (hG.cast (i := 896) (by decide +kernel)) hc9 hv9 hcl9 ?_
    refine W.cs (cells' := 1) (slots' := 6) rfl rfl ?_
    refine lv_astore_n (i := 3) (lv' := [(3, .ref q9), (0, va_rf r0), (1, .int x1), (2, va_rf r2)]) S.1 S.2.1 dL_inboxSize_12 rfl hl (by decide) (by simp [List.filter, mz_cat]) (fun ls hl => ?_)
    refine lv_iconst (v := (nI 1)) S.1 S.2.1 dL_inboxSize_13 (by decide) ?_
    exact mz_iret S hr hlk hM hS rfl (Nat.le_of_ble_eq_true rfl) (Nat.le_of_ble_eq_true rfl) dL_inboxSize_14 ⟨_, rfl, h⟩
  · obtain ⟨u4, rfl, e9, h⟩ := hp
    rw [e9] at hM
    refine W.cs (cells' := 1) (slots' := 6) rfl rfl ?_
    refine lv_i2l S.1 S.2.1 dL_inboxSize_7 rfl ?_
    obtain ⟨a5, e6, h⟩ := h
    refine mz_o2 e6 ?_
    obtain ⟨k7, h⟩ := h
    obtain ⟨b8, h⟩ := h
    refine mz_last S hG hM hS dL_inboxSize_8 k7 b8 (fun H locs hM hS hz9 => ?_)
    refine lv_goto (tgt := 15) S.1 S.2.1 dL_inboxSize_9 (by decide) ?_
    refine lv_iconst (v := (nI 0)) S.1 S.2.1 dL_inboxSize_15 (by decide) ?_
    exact mz_iret S hr hlk hM hS rfl (Nat.le_of_ble_eq_true rfl) (Nat.le_of_ble_eq_true rfl) dL_inboxSize_16 ⟨_, rfl, h⟩
set_option maxRecDepth 100000 in
set_option maxHeartbeats 4000000 in
theorem c_L_inboxMessage {l : Launch} {G : mgT} {μ : mmT} {r0 : Option Nat} {x1 : Int32} {x2 : Int32} {r3 : Option Nat} {Q : Int32 → mmT → Prop} (hl0 : l.stackTraces = false) (h : w_L_inboxMessage G μ r0 x1 x2 r3 Q) : MH G l yL_inboxMessage cL_inboxMessage 5 (some .int) [(0, 10, 13, 24), (0, 10, 17, 30)] { frames := 8, cells := 2, slots := 12, locals := 145 } [va_rf r0, .int x1, .int x2, va_rf r3] μ (pI Q) := by
  refine mz_MH (by decide +kernel) (by simp [lg_sl, mz_cat, mz_cr, mz_ci, mz_cl, mz_cf, mz_cd, mz_cn]) (fun p e s m args below meth c S hG hr hlk hnm htab => ?_)
  intro H locs ls hM hS hl
  have hl : lv_has ls 5 [(0, va_rf r0), (1, .int x1), (2, .int x2), (3, va_rf r3)] := by simpa [lv_args, mz_cat, mz_cr, mz_ci, mz_cl, mz_cf, mz_cd, mz_cn] using hl
  unfold w_L_inboxMessage at h
  refine mz_aload_n (x := r3) S.1 S.2.1 dL_inboxMessage_0 rfl (lv_at hl 3 rfl) ?_
  refine lv_iconst (v := (nI 0)) S.1 S.2.1 dL_inboxMessage_1 (by decide) ?_
  refine mz_aload_n (x := r0) S.1 S.2.1 dL_inboxMessage_2 rfl (lv_at hl 0 rfl) ?_
  refine lv_iload_n S.1 S.2.1 dL_inboxMessage_3 rfl (lv_at hl 1 rfl) ?_
  refine lv_iload_n S.1 S.2.1 dL_inboxMessage_4 rfl (lv_at hl 2 rfl) ?_
  obtain ⟨a1, e2, h⟩ := h
  refine mz_o2 e2 ?_
  obtain ⟨k3, h⟩ := h
  refine mz_VX S hG hM hS cf_9 k3 (As := [.int x1, .int x2]) (rest := [.int (nI 0), va_rf r3]) (c_X10_inboxMessage hl0 h) yf_X10_inboxMessage tw_1108 tw_1109 tw_1110 ⟨Nat.le_of_ble_eq_true rfl, Nat.le_of_ble_eq_true rfl⟩ ⟨(Nat.le_of_ble_eq_true rfl), (Nat.le_of_ble_eq_true rfl)⟩ rfl hl.1 rfl (by simp [mz_cat, mz_cr, mz_ci, mz_cl, mz_cf, mz_cd, mz_cn]) dL_inboxMessage_5 (fun E ce q9 μ9 H locs hp hM hS hc9 hv9 hcl9 => ?_) (fun v9 μ9 H locs hp hM hS => ?_)
  · obtain ⟨e9, h⟩ := hp
    rw [e9] at hM
    rcases h with ⟨rfl, h⟩ | h
    · refine vx_catch S.2.2.2.1 (name := "java/lang/IndexOutOfBoundsException") [] ⟨0, 10, 13, 24⟩ [⟨0, 10, 17, 30⟩] (by rw [htab]; rfl) (fun z hz => absurd hz List.not_mem_nil) (by decide) (by decide) (S.2.2.2.2 _ tw_942) (hG.cast (i := 896) (by decide +kernel)) hc9 hv9 hcl9 ?_
      refine W.cs (cells' := 2) (slots' := 12) rfl rfl ?_
      refine lv_astore (i := 4) (lv' := [(4, .ref q9), (0, va_rf r0), (1, .int x1), (2, .int x2), (3, va_rf r3)]) S.1 S.2.1 dL_inboxMessage_13 hl (by decide) (by simp [List.filter, mz_cat]) (fun ls hl => ?_)
      refine lv_iconst (v := (nI 1)) S.1 S.2.1 dL_inboxMessage_15 (by decide) ?_
      exact mz_iret S hr hlk hM hS rfl (Nat.le_of_ble_eq_true rfl) (Nat.le_of_ble_eq_true rfl) dL_inboxMessage_16 ⟨_, rfl, h⟩
    obtain ⟨rfl, h⟩ := h
    refine vx_catch S.2.2.2.1 (name := "java/util/NoSuchElementException") [⟨0, 10, 13, 24⟩] ⟨0, 10, 17, 30⟩ [] (by rw [htab]; rfl) (fun z hz => (List.mem_cons.mp hz).elim (fun e9 => by subst e9; exact Or.inr ⟨by decide, "java/lang/IndexOutOfBoundsException", S.2.2.2.2 _ tw_942, hG.nc (by decide)⟩) (fun hz => absurd hz List.not_mem_nil)) (by decide) (by decide) (S.2.2.2.2 _ tw_964) (hG.cast (i := 909) (by decide +kernel)) hc9 hv9 hcl9 ?_
    refine W.cs (cells' := 2) (slots' := 12) rfl rfl ?_
    refine lv_astore (i := 4) (lv' := [(4, .ref q9), (0, va_rf r0), (1, .int x1), (2, .int x2), (3, va_rf r3)]) S.1 S.2.1 dL_inboxMessage_17 hl (by decide) (by simp [List.filter, mz_cat]) (fun ls hl => ?_)
    refine lv_iconst (v := (nI 2)) S.1 S.2.1 dL_inboxMessage_19 (by decide) ?_
    exact mz_iret S hr hlk hM hS rfl (Nat.le_of_ble_eq_true rfl) (Nat.le_of_ble_eq_true rfl) dL_inboxMessage_20 ⟨_, rfl, h⟩
  · obtain ⟨u4, rfl, e9, h⟩ := hp
    rw [e9] at hM
    refine W.cs (cells' := 2) (slots' := 12) rfl rfl ?_
    refine lv_i2l S.1 S.2.1 dL_inboxMessage_8 rfl ?_
    obtain ⟨a5, e6, h⟩ := h
    refine mz_o2 e6 ?_
    obtain ⟨k7, h⟩ := h
    obtain ⟨b8, h⟩ := h
    refine mz_last S hG hM hS dL_inboxMessage_9 k7 b8 (fun H locs hM hS hz9 => ?_)
    refine lv_goto (tgt := 21) S.1 S.2.1 dL_inboxMessage_10 (by decide) ?_
    refine lv_iconst (v := (nI 0)) S.1 S.2.1 dL_inboxMessage_21 (by decide) ?_
    exact mz_iret S hr hlk hM hS rfl (Nat.le_of_ble_eq_true rfl) (Nat.le_of_ble_eq_true rfl) dL_inboxMessage_22 ⟨_, rfl, h⟩
set_option maxRecDepth 100000 in
set_option maxHeartbeats 4000000 in
theorem c_L_remembers {l : Launch} {G : mgT} {μ : mmT} {r0 : Option Nat} {x1 : Int32} {x2 : Int32} {r3 : Option Nat} {Q : Int32 → mmT → Prop} (hl0 : l.stackTraces = false) (h : w_L_remembers G μ r0 x1 x2 r3 Q) : MH G l yL_remembers cL_remembers 5 (some .int) [(0, 17, 20, 24)] { frames := 8, cells := 1, slots := 6, locals := 144 } [va_rf r0, .int x1, .int x2, va_rf r3] μ (pI Q) := by
  refine mz_MH (by decide +kernel) (by simp [lg_sl, mz_cat, mz_cr, mz_ci, mz_cl, mz_cf, mz_cd, mz_cn]) (fun p e s m args below meth c S hG hr hlk hnm htab => ?_)
  have hB16 : ∀ (s0 : Option Nat) (s1 : Int32) (s2 : Int64) (μ : mmT) (H : Heap) (locs : List Loc) (ls : Array Slot), Mm G μ H → va_S (Ah G) s.heap H locs → lv_has ls 5 [] → w_L_remembers_b16 G Q  s0 s1 s2 μ → W p l e { frames := 8, cells := 1, slots := 6, locals := 144 } s m args below meth c H locs 1 6 (MQ below (mQ G (pI Q)) args s 1 6 (Ah G)) (F0 m 16 ls [.long s2, .int s1, va_rf s0]) := by
    intro  s0 s1 s2 μ H locs ls hM hS hl h
    unfold w_L_remembers_b16 at h
    obtain ⟨a6, e7, h⟩ := h
    refine mz_o2 e7 ?_
    obtain ⟨k8, h⟩ := h
    obtain ⟨b9, h⟩ := h
    refine mz_last S hG hM hS dL_remembers_16 k8 b9 (fun H locs hM hS hz9 => ?_)
    refine lv_goto (tgt := 24) S.1 S.2.1 dL_remembers_17 (by decide) ?_
    refine lv_iconst (v := (nI 0)) S.1 S.2.1 dL_remembers_24 (by decide) ?_
    exact mz_iret S hr hlk hM hS rfl (Nat.le_of_ble_eq_true rfl) (Nat.le_of_ble_eq_true rfl) dL_remembers_25 ⟨_, rfl, h⟩
  intro H locs ls hM hS hl
  have hl : lv_has ls 5 [(0, va_rf r0), (1, .int x1), (2, .int x2), (3, va_rf r3)] := by simpa [lv_args, mz_cat, mz_cr, mz_ci, mz_cl, mz_cf, mz_cd, mz_cn] using hl
  unfold w_L_remembers at h
  refine mz_aload_n (x := r3) S.1 S.2.1 dL_remembers_0 rfl (lv_at hl 3 rfl) ?_
  refine lv_iconst (v := (nI 0)) S.1 S.2.1 dL_remembers_1 (by decide) ?_
  refine mz_aload_n (x := r0) S.1 S.2.1 dL_remembers_2 rfl (lv_at hl 0 rfl) ?_
  refine lv_iload_n S.1 S.2.1 dL_remembers_3 rfl (lv_at hl 1 rfl) ?_
  refine lv_iload_n S.1 S.2.1 dL_remembers_4 rfl (lv_at hl 2 rfl) ?_
  obtain ⟨a1, e2, h⟩ := h
  refine mz_o2 e2 ?_
  obtain ⟨k3, h⟩ := h
  refine mz_VX S hG hM hS cf_9 k3 (As := [.int x1, .int x2]) (rest := [.int (nI 0), va_rf r3]) (c_X10_remembers hl0 h) yf_X10_remembers tw_1116 tw_1117 tw_1118 ⟨Nat.le_of_ble_eq_true rfl, Nat.le_of_ble_eq_true rfl⟩ ⟨(Nat.le_of_ble_eq_true rfl), (Nat.le_of_ble_eq_true rfl)⟩ rfl hl.1 rfl (by simp [mz_cat, mz_cr, mz_ci, mz_cl, mz_cf, mz_cd, mz_cn]) dL_remembers_5 (fun E ce q9 μ9 H locs hp hM hS hc9 hv9 hcl9 => ?_) (fun v9 μ9 H locs hp hM hS => ?_)
  · obtain ⟨e9, h⟩ := hp
    rw [e9] at hM
    obtain ⟨rfl, h⟩ := h
    refine vx_catch S.2.2.2.1 (name := "java/lang/IndexOutOfBoundsException") [] ⟨0, 17, 20, 24⟩ [] (by rw [htab]; rfl) (fun z hz => absurd hz List.not_mem_nil) (by decide) (by decide) (S.2.2.2.2 _ tw_942) (hG.cast (i := 896) (by decide +kernel)) hc9 hv9 hcl9 ?_
    refine W.cs (cells' := 1) (slots' := 6) rfl rfl ?_
    refine lv_astore (i := 4) (lv' := [(4, .ref q9), (0, va_rf r0), (1, .int x1), (2, .int x2), (3, va_rf r3)]) S.1 S.2.1 dL_remembers_20 hl (by decide) (by simp [List.filter, mz_cat]) (fun ls hl => ?_)
    refine lv_iconst (v := (nI 1)) S.1 S.2.1 dL_remembers_22 (by decide) ?_
    exact mz_iret S hr hlk hM hS rfl (Nat.le_of_ble_eq_true rfl) (Nat.le_of_ble_eq_true rfl) dL_remembers_23 ⟨_, rfl, h⟩
  · obtain ⟨u4, rfl, e9, h⟩ := hp
    rw [e9] at hM
    refine W.cs (cells' := 1) (slots' := 6) rfl rfl ?_
    refine lv_if_eq (tgt := 15) S.1 S.2.1 dL_remembers_8 (by decide) (fun c5 => ?_) (fun c5 => ?_)
    · have h := h.1 c5
      refine lv_lconst (v := lN 0) S.1 S.2.1 dL_remembers_15 rfl ?_
      refine W.widen (k := 1) (n := 6) (by omega) (by omega) ?_
      exact hB16  r3 (nI 0) (lN 0) μ H locs ls hM hS (lv_sub hl [] rfl) h
    · have h := h.2 c5
      refine lv_lconst (v := lN 1) S.1 S.2.1 dL_remembers_11 rfl ?_
      refine lv_goto (tgt := 16) S.1 S.2.1 dL_remembers_12 (by decide) ?_
      refine W.widen (k := 1) (n := 6) (by omega) (by omega) ?_
      exact hB16  r3 (nI 0) (lN 1) μ H locs ls hM hS (lv_sub hl [] rfl) h
set_option maxRecDepth 100000 in
set_option maxHeartbeats 4000000 in
theorem c_L_rememberedCount {l : Launch} {G : mgT} {μ : mmT} {r0 : Option Nat} {x1 : Int32} {r2 : Option Nat} {Q : Int32 → mmT → Prop} (hl0 : l.stackTraces = false) (h : w_L_rememberedCount G μ r0 x1 r2 Q) : MH G l yL_rememberedCount cL_rememberedCount 4 (some .int) [(0, 9, 12, 24)] { frames := 8, cells := 1, slots := 6, locals := 143 } [va_rf r0, .int x1, va_rf r2] μ (pI Q) := by
  refine mz_MH (by decide +kernel) (by simp [lg_sl, mz_cat, mz_cr, mz_ci, mz_cl, mz_cf, mz_cd, mz_cn]) (fun p e s m args below meth c S hG hr hlk hnm htab => ?_)
  intro H locs ls hM hS hl
  have hl : lv_has ls 4 [(0, va_rf r0), (1, .int x1), (2, va_rf r2)] := by simpa [lv_args, mz_cat, mz_cr, mz_ci, mz_cl, mz_cf, mz_cd, mz_cn] using hl
  unfold w_L_rememberedCount at h
  refine mz_aload_n (x := r2) S.1 S.2.1 dL_rememberedCount_0 rfl (lv_at hl 2 rfl) ?_
  refine lv_iconst (v := (nI 0)) S.1 S.2.1 dL_rememberedCount_1 (by decide) ?_
  refine mz_aload_n (x := r0) S.1 S.2.1 dL_rememberedCount_2 rfl (lv_at hl 0 rfl) ?_
  refine lv_iload_n S.1 S.2.1 dL_rememberedCount_3 rfl (lv_at hl 1 rfl) ?_
  obtain ⟨a1, e2, h⟩ := h
  refine mz_o1 e2 ?_
  obtain ⟨k3, h⟩ := h
  refine mz_VX S hG hM hS cf_9 k3 (As := [.int x1]) (rest := [.int (nI 0), va_rf r2]) (c_X10_rememberedCount hl0 h) yf_X10_rememberedCount tw_1124 tw_1125 tw_1126 ⟨Nat.le_of_ble_eq_true rfl, Nat.le_of_ble_eq_true rfl⟩ ⟨(Nat.le_of_ble_eq_true rfl), (Nat.le_of_ble_eq_true rfl)⟩ rfl hl.1 rfl (by simp [mz_cat, mz_cr, mz_ci, mz_cl, mz_cf, mz_cd, mz_cn]) dL_rememberedCount_4 (fun E ce q9 μ9 H locs hp hM hS hc9 hv9 hcl9 => ?_) (fun v9 μ9 H locs hp hM hS => ?_)
  · obtain ⟨e9, h⟩ := hp
    rw [e9] at hM
    obtain ⟨rfl, h⟩ := h
    refine vx_catch S.2.2.2.1 (name := "java/lang/IndexOutOfBoundsException") [] ⟨0, 9, 12, 24⟩ [] (by rw [htab]; rfl) (fun z hz => absurd hz List.not_mem_nil) (by decide) (by decide) (S.2.2.2.2 _ tw_942) (hG.cast (i := 896) (by decide +kernel)) hc9 hv9 hcl9 ?_
    refine W.cs (cells' := 1) (slots' := 6) rfl rfl ?_
    refine lv_astore_n (i := 3) (lv' := [(3, .ref q9), (0, va_rf r0), (1, .int x1), (2, va_rf r2)]) S.1 S.2.1 dL_rememberedCount_12 rfl hl (by decide) (by simp [List.filter, mz_cat]) (fun ls hl => ?_)
    refine lv_iconst (v := (nI 1)) S.1 S.2.1 dL_rememberedCount_13 (by decide) ?_
    exact mz_iret S hr hlk hM hS rfl (Nat.le_of_ble_eq_true rfl) (Nat.le_of_ble_eq_true rfl) dL_rememberedCount_14 ⟨_, rfl, h⟩
  · obtain ⟨u4, rfl, e9, h⟩ := hp
    rw [e9] at hM
    refine W.cs (cells' := 1) (slots' := 6) rfl rfl ?_
    refine lv_i2l S.1 S.2.1 dL_rememberedCount_7 rfl ?_
    obtain ⟨a5, e6, h⟩ := h
    refine mz_o2 e6 ?_
    obtain ⟨k7, h⟩ := h
    obtain ⟨b8, h⟩ := h
    refine mz_last S hG hM hS dL_rememberedCount_8 k7 b8 (fun H locs hM hS hz9 => ?_)
    refine lv_goto (tgt := 15) S.1 S.2.1 dL_rememberedCount_9 (by decide) ?_
    refine lv_iconst (v := (nI 0)) S.1 S.2.1 dL_rememberedCount_15 (by decide) ?_
    exact mz_iret S hr hlk hM hS rfl (Nat.le_of_ble_eq_true rfl) (Nat.le_of_ble_eq_true rfl) dL_rememberedCount_16 ⟨_, rfl, h⟩
set_option maxRecDepth 100000 in
set_option maxHeartbeats 4000000 in
theorem c_L_nestByDeliveries {l : Launch} {G : mgT} {μ : mmT} {r0 : Option Nat} {x1 : Int32} {r2 : Option Nat} {Q : Int32 → mmT → Prop} (hl0 : l.stackTraces = false) (h : w_L_nestByDeliveries G μ r0 x1 r2 Q) : MH G l yL_nestByDeliveries cL_nestByDeliveries 4 (some .int) [(0, 9, 12, 30)] { frames := 7, cells := 1, slots := 6, locals := 122 } [va_rf r0, .int x1, va_rf r2] μ (pI Q) := by
  refine mz_MH (by decide +kernel) (by simp [lg_sl, mz_cat, mz_cr, mz_ci, mz_cl, mz_cf, mz_cd, mz_cn]) (fun p e s m args below meth c S hG hr hlk hnm htab => ?_)
  intro H locs ls hM hS hl
  have hl : lv_has ls 4 [(0, va_rf r0), (1, .int x1), (2, va_rf r2)] := by simpa [lv_args, mz_cat, mz_cr, mz_ci, mz_cl, mz_cf, mz_cd, mz_cn] using hl
  unfold w_L_nestByDeliveries at h
  refine mz_aload_n (x := r2) S.1 S.2.1 dL_nestByDeliveries_0 rfl (lv_at hl 2 rfl) ?_
  refine lv_iconst (v := (nI 0)) S.1 S.2.1 dL_nestByDeliveries_1 (by decide) ?_
  refine mz_aload_n (x := r0) S.1 S.2.1 dL_nestByDeliveries_2 rfl (lv_at hl 0 rfl) ?_
  refine lv_iload_n S.1 S.2.1 dL_nestByDeliveries_3 rfl (lv_at hl 1 rfl) ?_
  obtain ⟨a1, e2, h⟩ := h
  refine mz_o1 e2 ?_
  obtain ⟨k3, h⟩ := h
  refine mz_VX S hG hM hS cf_9 k3 (As := [.int x1]) (rest := [.int (nI 0), va_rf r2]) (c_X10_nestByDeliveries hl0 h) yf_X10_nestByDeliveries tw_1131 tw_1132 tw_1133 ⟨Nat.le_of_ble_eq_true rfl, Nat.le_of_ble_eq_true rfl⟩ ⟨(Nat.le_of_ble_eq_true rfl), (Nat.le_of_ble_eq_true rfl)⟩ rfl hl.1 rfl (by simp [mz_cat, mz_cr, mz_ci, mz_cl, mz_cf, mz_cd, mz_cn]) dL_nestByDeliveries_4 (fun E ce q9 μ9 H locs hp hM hS hc9 hv9 hcl9 => ?_) (fun v9 μ9 H locs hp hM hS => ?_)
  · obtain ⟨e9, h⟩ := hp
    rw [e9] at hM
    obtain ⟨rfl, h⟩ := h
    refine vx_catch S.2.2.2.1 (name := "java/util/NoSuchElementException") [] ⟨0, 9, 12, 30⟩ [] (by rw [htab]; rfl) (fun z hz => absurd hz List.not_mem_nil) (by decide) (by decide) (S.2.2.2.2 _ tw_964) (hG.cast (i := 909) (by decide +kernel)) hc9 hv9 hcl9 ?_
    refine W.cs (cells' := 1) (slots' := 6) rfl rfl ?_
    refine lv_astore_n (i := 3) (lv' := [(3, .ref q9), (0, va_rf r0), (1, .int x1), (2, va_rf r2)]) S.1 S.2.1 dL_nestByDeliveries_12 rfl hl (by decide) (by simp [List.filter, mz_cat]) (fun ls hl => ?_)
    refine lv_iconst (v := (nI 1)) S.1 S.2.1 dL_nestByDeliveries_13 (by decide) ?_
    exact mz_iret S hr hlk hM hS rfl (Nat.le_of_ble_eq_true rfl) (Nat.le_of_ble_eq_true rfl) dL_nestByDeliveries_14 ⟨_, rfl, h⟩
  · obtain ⟨u4, rfl, e9, h⟩ := hp
    rw [e9] at hM
    refine W.cs (cells' := 1) (slots' := 6) rfl rfl ?_
    refine lv_i2l S.1 S.2.1 dL_nestByDeliveries_7 rfl ?_
    obtain ⟨a5, e6, h⟩ := h
    refine mz_o2 e6 ?_
    obtain ⟨k7, h⟩ := h
    obtain ⟨b8, h⟩ := h
    refine mz_last S hG hM hS dL_nestByDeliveries_8 k7 b8 (fun H locs hM hS hz9 => ?_)
    refine lv_goto (tgt := 15) S.1 S.2.1 dL_nestByDeliveries_9 (by decide) ?_
    refine lv_iconst (v := (nI 0)) S.1 S.2.1 dL_nestByDeliveries_15 (by decide) ?_
    exact mz_iret S hr hlk hM hS rfl (Nat.le_of_ble_eq_true rfl) (Nat.le_of_ble_eq_true rfl) dL_nestByDeliveries_16 ⟨_, rfl, h⟩
set_option maxRecDepth 100000 in
set_option maxHeartbeats 4000000 in
theorem c_L_isFlying {l : Launch} {G : mgT} {μ : mmT} {r0 : Option Nat} {x1 : Int32} {r2 : Option Nat} {Q : Int32 → mmT → Prop} (hl0 : l.stackTraces = false) (h : w_L_isFlying G μ r0 x1 r2 Q) : MH G l yL_isFlying cL_isFlying 4 (some .int) [(0, 16, 19, 24)] { frames := 8, cells := 1, slots := 6, locals := 143 } [va_rf r0, .int x1, va_rf r2] μ (pI Q) := by
  refine mz_MH (by decide +kernel) (by simp [lg_sl, mz_cat, mz_cr, mz_ci, mz_cl, mz_cf, mz_cd, mz_cn]) (fun p e s m args below meth c S hG hr hlk hnm htab => ?_)
  have hB15 : ∀ (s0 : Option Nat) (s1 : Int32) (s2 : Int64) (μ : mmT) (H : Heap) (locs : List Loc) (ls : Array Slot), Mm G μ H → va_S (Ah G) s.heap H locs → lv_has ls 4 [] → w_L_isFlying_b15 G Q  s0 s1 s2 μ → W p l e { frames := 8, cells := 1, slots := 6, locals := 143 } s m args below meth c H locs 1 6 (MQ below (mQ G (pI Q)) args s 1 6 (Ah G)) (F0 m 15 ls [.long s2, .int s1, va_rf s0]) := by
    intro  s0 s1 s2 μ H locs ls hM hS hl h
    unfold w_L_isFlying_b15 at h
    obtain ⟨a6, e7, h⟩ := h
    refine mz_o2 e7 ?_
    obtain ⟨k8, h⟩ := h
    obtain ⟨b9, h⟩ := h
    refine mz_last S hG hM hS dL_isFlying_15 k8 b9 (fun H locs hM hS hz9 => ?_)
    refine lv_goto (tgt := 22) S.1 S.2.1 dL_isFlying_16 (by decide) ?_
    refine lv_iconst (v := (nI 0)) S.1 S.2.1 dL_isFlying_22 (by decide) ?_
    exact mz_iret S hr hlk hM hS rfl (Nat.le_of_ble_eq_true rfl) (Nat.le_of_ble_eq_true rfl) dL_isFlying_23 ⟨_, rfl, h⟩
  intro H locs ls hM hS hl
  have hl : lv_has ls 4 [(0, va_rf r0), (1, .int x1), (2, va_rf r2)] := by simpa [lv_args, mz_cat, mz_cr, mz_ci, mz_cl, mz_cf, mz_cd, mz_cn] using hl
  unfold w_L_isFlying at h
  refine mz_aload_n (x := r2) S.1 S.2.1 dL_isFlying_0 rfl (lv_at hl 2 rfl) ?_
  refine lv_iconst (v := (nI 0)) S.1 S.2.1 dL_isFlying_1 (by decide) ?_
  refine mz_aload_n (x := r0) S.1 S.2.1 dL_isFlying_2 rfl (lv_at hl 0 rfl) ?_
  refine lv_iload_n S.1 S.2.1 dL_isFlying_3 rfl (lv_at hl 1 rfl) ?_
  obtain ⟨a1, e2, h⟩ := h
  refine mz_o1 e2 ?_
  obtain ⟨k3, h⟩ := h
  refine mz_VX S hG hM hS cf_9 k3 (As := [.int x1]) (rest := [.int (nI 0), va_rf r2]) (c_X10_isFlying hl0 h) yf_X10_isFlying tw_1147 tw_1148 tw_1149 ⟨Nat.le_of_ble_eq_true rfl, Nat.le_of_ble_eq_true rfl⟩ ⟨(Nat.le_of_ble_eq_true rfl), (Nat.le_of_ble_eq_true rfl)⟩ rfl hl.1 rfl (by simp [mz_cat, mz_cr, mz_ci, mz_cl, mz_cf, mz_cd, mz_cn]) dL_isFlying_4 (fun E ce q9 μ9 H locs hp hM hS hc9 hv9 hcl9 => ?_) (fun v9 μ9 H locs hp hM hS => ?_)
  · obtain ⟨e9, h⟩ := hp
    rw [e9] at hM
    obtain ⟨rfl, h⟩ := h
    refine vx_catch S.2.2.2.1 (name := "java/lang/IndexOutOfBoundsException") [] ⟨0, 16, 19, 24⟩ [] (by rw [htab]; rfl) (fun z hz => absurd hz List.not_mem_nil) (by decide) (by decide) (S.2.2.2.2 _ tw_942) (hG.cast (i := 896) (by decide +kernel)) hc9 hv9 hcl9 ?_
    refine W.cs (cells' := 1) (slots' := 6) rfl rfl ?_
    refine lv_astore_n (i := 3) (lv' := [(3, .ref q9), (0, va_rf r0), (1, .int x1), (2, va_rf r2)]) S.1 S.2.1 dL_isFlying_19 rfl hl (by decide) (by simp [List.filter, mz_cat]) (fun ls hl => ?_)
    refine lv_iconst (v := (nI 1)) S.1 S.2.1 dL_isFlying_20 (by decide) ?_
    exact mz_iret S hr hlk hM hS rfl (Nat.le_of_ble_eq_true rfl) (Nat.le_of_ble_eq_true rfl) dL_isFlying_21 ⟨_, rfl, h⟩
  · obtain ⟨u4, rfl, e9, h⟩ := hp
    rw [e9] at hM
    refine W.cs (cells' := 1) (slots' := 6) rfl rfl ?_
    refine lv_if_eq (tgt := 14) S.1 S.2.1 dL_isFlying_7 (by decide) (fun c5 => ?_) (fun c5 => ?_)
    · have h := h.1 c5
      refine lv_lconst (v := lN 0) S.1 S.2.1 dL_isFlying_14 rfl ?_
      refine W.widen (k := 1) (n := 6) (by omega) (by omega) ?_
      exact hB15  r2 (nI 0) (lN 0) μ H locs ls hM hS (lv_sub hl [] rfl) h
    · have h := h.2 c5
      refine lv_lconst (v := lN 1) S.1 S.2.1 dL_isFlying_10 rfl ?_
      refine lv_goto (tgt := 15) S.1 S.2.1 dL_isFlying_11 (by decide) ?_
      refine W.widen (k := 1) (n := 6) (by omega) (by omega) ?_
      exact hB15  r2 (nI 0) (lN 1) μ H locs ls hM hS (lv_sub hl [] rfl) h
set_option maxRecDepth 100000 in
set_option maxHeartbeats 4000000 in
theorem c_L_carriedMessage {l : Launch} {G : mgT} {μ : mmT} {r0 : Option Nat} {x1 : Int32} {r2 : Option Nat} {Q : Int32 → mmT → Prop} (hl0 : l.stackTraces = false) (h : w_L_carriedMessage G μ r0 x1 r2 Q) : MH G l yL_carriedMessage cL_carriedMessage 4 (some .int) [(0, 9, 12, 24), (0, 9, 15, 30)] { frames := 8, cells := 2, slots := 12, locals := 144 } [va_rf r0, .int x1, va_rf r2] μ (pI Q) := by
  refine mz_MH (by decide +kernel) (by simp [lg_sl, mz_cat, mz_cr, mz_ci, mz_cl, mz_cf, mz_cd, mz_cn]) (fun p e s m args below meth c S hG hr hlk hnm htab => ?_)
  intro H locs ls hM hS hl
  have hl : lv_has ls 4 [(0, va_rf r0), (1, .int x1), (2, va_rf r2)] := by simpa [lv_args, mz_cat, mz_cr, mz_ci, mz_cl, mz_cf, mz_cd, mz_cn] using hl
  unfold w_L_carriedMessage at h
  refine mz_aload_n (x := r2) S.1 S.2.1 dL_carriedMessage_0 rfl (lv_at hl 2 rfl) ?_
  refine lv_iconst (v := (nI 0)) S.1 S.2.1 dL_carriedMessage_1 (by decide) ?_
  refine mz_aload_n (x := r0) S.1 S.2.1 dL_carriedMessage_2 rfl (lv_at hl 0 rfl) ?_
  refine lv_iload_n S.1 S.2.1 dL_carriedMessage_3 rfl (lv_at hl 1 rfl) ?_
  obtain ⟨a1, e2, h⟩ := h
  refine mz_o1 e2 ?_
  obtain ⟨k3, h⟩ := h
  refine mz_VX S hG hM hS cf_9 k3 (As := [.int x1]) (rest := [.int (nI 0), va_rf r2]) (c_X10_carriedMessage hl0 h) yf_X10_carriedMessage tw_1163 tw_1164 tw_1165 ⟨Nat.le_of_ble_eq_true rfl, Nat.le_of_ble_eq_true rfl⟩ ⟨(Nat.le_of_ble_eq_true rfl), (Nat.le_of_ble_eq_true rfl)⟩ rfl hl.1 rfl (by simp [mz_cat, mz_cr, mz_ci, mz_cl, mz_cf, mz_cd, mz_cn]) dL_carriedMessage_4 (fun E ce q9 μ9 H locs hp hM hS hc9 hv9 hcl9 => ?_) (fun v9 μ9 H locs hp hM hS => ?_)
  · obtain ⟨e9, h⟩ := hp
    rw [e9] at hM
    rcases h with ⟨rfl, h⟩ | h
    · refine vx_catch S.2.2.2.1 (name := "java/lang/IndexOutOfBoundsException") [] ⟨0, 9, 12, 24⟩ [⟨0, 9, 15, 30⟩] (by rw [htab]; rfl) (fun z hz => absurd hz List.not_mem_nil) (by decide) (by decide) (S.2.2.2.2 _ tw_942) (hG.cast (i := 896) (by decide +kernel)) hc9 hv9 hcl9 ?_
      refine W.cs (cells' := 2) (slots' := 12) rfl rfl ?_
      refine lv_astore_n (i := 3) (lv' := [(3, .ref q9), (0, va_rf r0), (1, .int x1), (2, va_rf r2)]) S.1 S.2.1 dL_carriedMessage_12 rfl hl (by decide) (by simp [List.filter, mz_cat]) (fun ls hl => ?_)
      refine lv_iconst (v := (nI 1)) S.1 S.2.1 dL_carriedMessage_13 (by decide) ?_
      exact mz_iret S hr hlk hM hS rfl (Nat.le_of_ble_eq_true rfl) (Nat.le_of_ble_eq_true rfl) dL_carriedMessage_14 ⟨_, rfl, h⟩
    obtain ⟨rfl, h⟩ := h
    refine vx_catch S.2.2.2.1 (name := "java/util/NoSuchElementException") [⟨0, 9, 12, 24⟩] ⟨0, 9, 15, 30⟩ [] (by rw [htab]; rfl) (fun z hz => (List.mem_cons.mp hz).elim (fun e9 => by subst e9; exact Or.inr ⟨by decide, "java/lang/IndexOutOfBoundsException", S.2.2.2.2 _ tw_942, hG.nc (by decide)⟩) (fun hz => absurd hz List.not_mem_nil)) (by decide) (by decide) (S.2.2.2.2 _ tw_964) (hG.cast (i := 909) (by decide +kernel)) hc9 hv9 hcl9 ?_
    refine W.cs (cells' := 2) (slots' := 12) rfl rfl ?_
    refine lv_astore_n (i := 3) (lv' := [(3, .ref q9), (0, va_rf r0), (1, .int x1), (2, va_rf r2)]) S.1 S.2.1 dL_carriedMessage_15 rfl hl (by decide) (by simp [List.filter, mz_cat]) (fun ls hl => ?_)
    refine lv_iconst (v := (nI 2)) S.1 S.2.1 dL_carriedMessage_16 (by decide) ?_
    exact mz_iret S hr hlk hM hS rfl (Nat.le_of_ble_eq_true rfl) (Nat.le_of_ble_eq_true rfl) dL_carriedMessage_17 ⟨_, rfl, h⟩
  · obtain ⟨u4, rfl, e9, h⟩ := hp
    rw [e9] at hM
    refine W.cs (cells' := 2) (slots' := 12) rfl rfl ?_
    refine lv_i2l S.1 S.2.1 dL_carriedMessage_7 rfl ?_
    obtain ⟨a5, e6, h⟩ := h
    refine mz_o2 e6 ?_
    obtain ⟨k7, h⟩ := h
    obtain ⟨b8, h⟩ := h
    refine mz_last S hG hM hS dL_carriedMessage_8 k7 b8 (fun H locs hM hS hz9 => ?_)
    refine lv_goto (tgt := 18) S.1 S.2.1 dL_carriedMessage_9 (by decide) ?_
    refine lv_iconst (v := (nI 0)) S.1 S.2.1 dL_carriedMessage_18 (by decide) ?_
    exact mz_iret S hr hlk hM hS rfl (Nat.le_of_ble_eq_true rfl) (Nat.le_of_ble_eq_true rfl) dL_carriedMessage_19 ⟨_, rfl, h⟩
set_option maxRecDepth 100000 in
set_option maxHeartbeats 4000000 in
theorem c_L_flightMinutes {l : Launch} {G : mgT} {μ : mmT} {r0 : Option Nat} {x1 : Int32} {r2 : Option Nat} {Q : Int32 → mmT → Prop} (hl0 : l.stackTraces = false) (h : w_L_flightMinutes G μ r0 x1 r2 Q) : MH G l yL_flightMinutes cL_flightMinutes 4 (some .int) [(0, 9, 12, 24)] { frames := 8, cells := 1, slots := 6, locals := 144 } [va_rf r0, .int x1, va_rf r2] μ (pI Q) := by
  refine mz_MH (by decide +kernel) (by simp [lg_sl, mz_cat, mz_cr, mz_ci, mz_cl, mz_cf, mz_cd, mz_cn]) (fun p e s m args below meth c S hG hr hlk hnm htab => ?_)
  intro H locs ls hM hS hl
  have hl : lv_has ls 4 [(0, va_rf r0), (1, .int x1), (2, va_rf r2)] := by simpa [lv_args, mz_cat, mz_cr, mz_ci, mz_cl, mz_cf, mz_cd, mz_cn] using hl
  unfold w_L_flightMinutes at h
  refine mz_aload_n (x := r2) S.1 S.2.1 dL_flightMinutes_0 rfl (lv_at hl 2 rfl) ?_
  refine lv_iconst (v := (nI 0)) S.1 S.2.1 dL_flightMinutes_1 (by decide) ?_
  refine mz_aload_n (x := r0) S.1 S.2.1 dL_flightMinutes_2 rfl (lv_at hl 0 rfl) ?_
  refine lv_iload_n S.1 S.2.1 dL_flightMinutes_3 rfl (lv_at hl 1 rfl) ?_
  obtain ⟨a1, e2, h⟩ := h
  refine mz_o1 e2 ?_
  obtain ⟨k3, h⟩ := h
  refine mz_VX S hG hM hS cf_9 k3 (As := [.int x1]) (rest := [.int (nI 0), va_rf r2]) (c_X10_flightMinutes hl0 h) yf_X10_flightMinutes tw_1171 tw_1172 tw_1173 ⟨Nat.le_of_ble_eq_true rfl, Nat.le_of_ble_eq_true rfl⟩ ⟨(Nat.le_of_ble_eq_true rfl), (Nat.le_of_ble_eq_true rfl)⟩ rfl hl.1 rfl (by simp [mz_cat, mz_cr, mz_ci, mz_cl, mz_cf, mz_cd, mz_cn]) dL_flightMinutes_4 (fun E ce q9 μ9 H locs hp hM hS hc9 hv9 hcl9 => ?_) (fun v9 μ9 H locs hp hM hS => ?_)
  · obtain ⟨e9, h⟩ := hp
    rw [e9] at hM
    obtain ⟨rfl, h⟩ := h
    refine vx_catch S.2.2.2.1 (name := "java/lang/IndexOutOfBoundsException") [] ⟨0, 9, 12, 24⟩ [] (by rw [htab]; rfl) (fun z hz => absurd hz List.not_mem_nil) (by decide) (by decide) (S.2.2.2.2 _ tw_942) (hG.cast (i := 896) (by decide +kernel)) hc9 hv9 hcl9 ?_
    refine W.cs (cells' := 1) (slots' := 6) rfl rfl ?_
    refine lv_astore_n (i := 3) (lv' := [(3, .ref q9), (0, va_rf r0), (1, .int x1), (2, va_rf r2)]) S.1 S.2.1 dL_flightMinutes_12 rfl hl (by decide) (by simp [List.filter, mz_cat]) (fun ls hl => ?_)
    refine lv_iconst (v := (nI 1)) S.1 S.2.1 dL_flightMinutes_13 (by decide) ?_
    exact mz_iret S hr hlk hM hS rfl (Nat.le_of_ble_eq_true rfl) (Nat.le_of_ble_eq_true rfl) dL_flightMinutes_14 ⟨_, rfl, h⟩
  · obtain ⟨u4, rfl, e9, h⟩ := hp
    rw [e9] at hM
    refine W.cs (cells' := 1) (slots' := 6) rfl rfl ?_
    refine lv_i2l S.1 S.2.1 dL_flightMinutes_7 rfl ?_
    obtain ⟨a5, e6, h⟩ := h
    refine mz_o2 e6 ?_
    obtain ⟨k7, h⟩ := h
    obtain ⟨b8, h⟩ := h
    refine mz_last S hG hM hS dL_flightMinutes_8 k7 b8 (fun H locs hM hS hz9 => ?_)
    refine lv_goto (tgt := 15) S.1 S.2.1 dL_flightMinutes_9 (by decide) ?_
    refine lv_iconst (v := (nI 0)) S.1 S.2.1 dL_flightMinutes_15 (by decide) ?_
    exact mz_iret S hr hlk hM hS rfl (Nat.le_of_ble_eq_true rfl) (Nat.le_of_ble_eq_true rfl) dL_flightMinutes_16 ⟨_, rfl, h⟩
set_option maxRecDepth 100000 in
set_option maxHeartbeats 4000000 in
theorem c_L_messageAt {l : Launch} {G : mgT} {μ : mmT} {r0 : Option Nat} {x1 : Int32} {r2 : Option Nat} {Q : Int32 → mmT → Prop} (hl0 : l.stackTraces = false) (h : w_L_messageAt G μ r0 x1 r2 Q) : MH G l yL_messageAt cL_messageAt 4 (some .int) [(0, 9, 12, 30)] { frames := 7, cells := 1, slots := 6, locals := 121 } [va_rf r0, .int x1, va_rf r2] μ (pI Q) := by
  refine mz_MH (by decide +kernel) (by simp [lg_sl, mz_cat, mz_cr, mz_ci, mz_cl, mz_cf, mz_cd, mz_cn]) (fun p e s m args below meth c S hG hr hlk hnm htab => ?_)
  intro H locs ls hM hS hl
  have hl : lv_has ls 4 [(0, va_rf r0), (1, .int x1), (2, va_rf r2)] := by simpa [lv_args, mz_cat, mz_cr, mz_ci, mz_cl, mz_cf, mz_cd, mz_cn] using hl
  unfold w_L_messageAt at h
  refine mz_aload_n (x := r2) S.1 S.2.1 dL_messageAt_0 rfl (lv_at hl 2 rfl) ?_
  refine lv_iconst (v := (nI 0)) S.1 S.2.1 dL_messageAt_1 (by decide) ?_
  refine mz_aload_n (x := r0) S.1 S.2.1 dL_messageAt_2 rfl (lv_at hl 0 rfl) ?_
  refine lv_iload_n S.1 S.2.1 dL_messageAt_3 rfl (lv_at hl 1 rfl) ?_
  obtain ⟨a1, e2, h⟩ := h
  refine mz_o1 e2 ?_
  obtain ⟨k3, h⟩ := h
  refine mz_VX S hG hM hS cf_9 k3 (As := [.int x1]) (rest := [.int (nI 0), va_rf r2]) (c_X10_messageAt hl0 h) yf_X10_messageAt tw_1178 tw_1179 tw_1180 ⟨Nat.le_of_ble_eq_true rfl, Nat.le_of_ble_eq_true rfl⟩ ⟨(Nat.le_of_ble_eq_true rfl), (Nat.le_of_ble_eq_true rfl)⟩ rfl hl.1 rfl (by simp [mz_cat, mz_cr, mz_ci, mz_cl, mz_cf, mz_cd, mz_cn]) dL_messageAt_4 (fun E ce q9 μ9 H locs hp hM hS hc9 hv9 hcl9 => ?_) (fun v9 μ9 H locs hp hM hS => ?_)
  · obtain ⟨e9, h⟩ := hp
    rw [e9] at hM
    obtain ⟨rfl, h⟩ := h
    refine vx_catch S.2.2.2.1 (name := "java/util/NoSuchElementException") [] ⟨0, 9, 12, 30⟩ [] (by rw [htab]; rfl) (fun z hz => absurd hz List.not_mem_nil) (by decide) (by decide) (S.2.2.2.2 _ tw_964) (hG.cast (i := 909) (by decide +kernel)) hc9 hv9 hcl9 ?_
    refine W.cs (cells' := 1) (slots' := 6) rfl rfl ?_
    refine lv_astore_n (i := 3) (lv' := [(3, .ref q9), (0, va_rf r0), (1, .int x1), (2, va_rf r2)]) S.1 S.2.1 dL_messageAt_12 rfl hl (by decide) (by simp [List.filter, mz_cat]) (fun ls hl => ?_)
    refine lv_iconst (v := (nI 1)) S.1 S.2.1 dL_messageAt_13 (by decide) ?_
    exact mz_iret S hr hlk hM hS rfl (Nat.le_of_ble_eq_true rfl) (Nat.le_of_ble_eq_true rfl) dL_messageAt_14 ⟨_, rfl, h⟩
  · obtain ⟨u4, rfl, e9, h⟩ := hp
    rw [e9] at hM
    refine W.cs (cells' := 1) (slots' := 6) rfl rfl ?_
    refine lv_i2l S.1 S.2.1 dL_messageAt_7 rfl ?_
    obtain ⟨a5, e6, h⟩ := h
    refine mz_o2 e6 ?_
    obtain ⟨k7, h⟩ := h
    obtain ⟨b8, h⟩ := h
    refine mz_last S hG hM hS dL_messageAt_8 k7 b8 (fun H locs hM hS hz9 => ?_)
    refine lv_goto (tgt := 15) S.1 S.2.1 dL_messageAt_9 (by decide) ?_
    refine lv_iconst (v := (nI 0)) S.1 S.2.1 dL_messageAt_15 (by decide) ?_
    exact mz_iret S hr hlk hM hS rfl (Nat.le_of_ble_eq_true rfl) (Nat.le_of_ble_eq_true rfl) dL_messageAt_16 ⟨_, rfl, h⟩
set_option maxRecDepth 100000 in
set_option maxHeartbeats 4000000 in
theorem c_L_nestOf {l : Launch} {G : mgT} {μ : mmT} {r0 : Option Nat} {x1 : Int32} {r2 : Option Nat} {Q : Int32 → mmT → Prop} (hl0 : l.stackTraces = false) (h : w_L_nestOf G μ r0 x1 r2 Q) : MH G l yL_nestOf cL_nestOf 4 (some .int) [(0, 9, 12, 30)] { frames := 8, cells := 1, slots := 6, locals := 143 } [va_rf r0, .int x1, va_rf r2] μ (pI Q) := by
  refine mz_MH (by decide +kernel) (by simp [lg_sl, mz_cat, mz_cr, mz_ci, mz_cl, mz_cf, mz_cd, mz_cn]) (fun p e s m args below meth c S hG hr hlk hnm htab => ?_)
  intro H locs ls hM hS hl
  have hl : lv_has ls 4 [(0, va_rf r0), (1, .int x1), (2, va_rf r2)] := by simpa [lv_args, mz_cat, mz_cr, mz_ci, mz_cl, mz_cf, mz_cd, mz_cn] using hl
  unfold w_L_nestOf at h
  refine mz_aload_n (x := r2) S.1 S.2.1 dL_nestOf_0 rfl (lv_at hl 2 rfl) ?_
  refine lv_iconst (v := (nI 0)) S.1 S.2.1 dL_nestOf_1 (by decide) ?_
  refine mz_aload_n (x := r0) S.1 S.2.1 dL_nestOf_2 rfl (lv_at hl 0 rfl) ?_
  refine lv_iload_n S.1 S.2.1 dL_nestOf_3 rfl (lv_at hl 1 rfl) ?_
  obtain ⟨a1, e2, h⟩ := h
  refine mz_o1 e2 ?_
  obtain ⟨k3, h⟩ := h
  refine mz_VX S hG hM hS cf_9 k3 (As := [.int x1]) (rest := [.int (nI 0), va_rf r2]) (c_X10_nestOf hl0 h) yf_X10_nestOf tw_1185 tw_1186 tw_1187 ⟨Nat.le_of_ble_eq_true rfl, Nat.le_of_ble_eq_true rfl⟩ ⟨(Nat.le_of_ble_eq_true rfl), (Nat.le_of_ble_eq_true rfl)⟩ rfl hl.1 rfl (by simp [mz_cat, mz_cr, mz_ci, mz_cl, mz_cf, mz_cd, mz_cn]) dL_nestOf_4 (fun E ce q9 μ9 H locs hp hM hS hc9 hv9 hcl9 => ?_) (fun v9 μ9 H locs hp hM hS => ?_)
  · obtain ⟨e9, h⟩ := hp
    rw [e9] at hM
    obtain ⟨rfl, h⟩ := h
    refine vx_catch S.2.2.2.1 (name := "java/util/NoSuchElementException") [] ⟨0, 9, 12, 30⟩ [] (by rw [htab]; rfl) (fun z hz => absurd hz List.not_mem_nil) (by decide) (by decide) (S.2.2.2.2 _ tw_964) (hG.cast (i := 909) (by decide +kernel)) hc9 hv9 hcl9 ?_
    refine W.cs (cells' := 1) (slots' := 6) rfl rfl ?_
    refine lv_astore_n (i := 3) (lv' := [(3, .ref q9), (0, va_rf r0), (1, .int x1), (2, va_rf r2)]) S.1 S.2.1 dL_nestOf_12 rfl hl (by decide) (by simp [List.filter, mz_cat]) (fun ls hl => ?_)
    refine lv_iconst (v := (nI 1)) S.1 S.2.1 dL_nestOf_13 (by decide) ?_
    exact mz_iret S hr hlk hM hS rfl (Nat.le_of_ble_eq_true rfl) (Nat.le_of_ble_eq_true rfl) dL_nestOf_14 ⟨_, rfl, h⟩
  · obtain ⟨u4, rfl, e9, h⟩ := hp
    rw [e9] at hM
    refine W.cs (cells' := 1) (slots' := 6) rfl rfl ?_
    refine lv_i2l S.1 S.2.1 dL_nestOf_7 rfl ?_
    obtain ⟨a5, e6, h⟩ := h
    refine mz_o2 e6 ?_
    obtain ⟨k7, h⟩ := h
    obtain ⟨b8, h⟩ := h
    refine mz_last S hG hM hS dL_nestOf_8 k7 b8 (fun H locs hM hS hz9 => ?_)
    refine lv_goto (tgt := 15) S.1 S.2.1 dL_nestOf_9 (by decide) ?_
    refine lv_iconst (v := (nI 0)) S.1 S.2.1 dL_nestOf_15 (by decide) ?_
    exact mz_iret S hr hlk hM hS rfl (Nat.le_of_ble_eq_true rfl) (Nat.le_of_ble_eq_true rfl) dL_nestOf_16 ⟨_, rfl, h⟩
set_option maxRecDepth 100000 in
set_option maxHeartbeats 4000000 in
theorem c_L_keyOf {l : Launch} {G : mgT} {μ : mmT} {r0 : Option Nat} {x1 : Int32} {r2 : Option Nat} {Q : Int32 → mmT → Prop} (hl0 : l.stackTraces = false) (h : w_L_keyOf G μ r0 x1 r2 Q) : MH G l yL_keyOf cL_keyOf 4 (some .int) [(0, 9, 12, 30)] { frames := 8, cells := 1, slots := 6, locals := 143 } [va_rf r0, .int x1, va_rf r2] μ (pI Q) := by
  refine mz_MH (by decide +kernel) (by simp [lg_sl, mz_cat, mz_cr, mz_ci, mz_cl, mz_cf, mz_cd, mz_cn]) (fun p e s m args below meth c S hG hr hlk hnm htab => ?_)
  intro H locs ls hM hS hl
  have hl : lv_has ls 4 [(0, va_rf r0), (1, .int x1), (2, va_rf r2)] := by simpa [lv_args, mz_cat, mz_cr, mz_ci, mz_cl, mz_cf, mz_cd, mz_cn] using hl
  unfold w_L_keyOf at h
  refine mz_aload_n (x := r2) S.1 S.2.1 dL_keyOf_0 rfl (lv_at hl 2 rfl) ?_
  refine lv_iconst (v := (nI 0)) S.1 S.2.1 dL_keyOf_1 (by decide) ?_
  refine mz_aload_n (x := r0) S.1 S.2.1 dL_keyOf_2 rfl (lv_at hl 0 rfl) ?_
  refine lv_iload_n S.1 S.2.1 dL_keyOf_3 rfl (lv_at hl 1 rfl) ?_
  obtain ⟨a1, e2, h⟩ := h
  refine mz_o1 e2 ?_
  obtain ⟨k3, h⟩ := h
  refine mz_VX S hG hM hS cf_9 k3 (As := [.int x1]) (rest := [.int (nI 0), va_rf r2]) (c_X10_keyOf hl0 h) yf_X10_keyOf tw_1197 tw_1198 tw_1199 ⟨Nat.le_of_ble_eq_true rfl, Nat.le_of_ble_eq_true rfl⟩ ⟨(Nat.le_of_ble_eq_true rfl), (Nat.le_of_ble_eq_true rfl)⟩ rfl hl.1 rfl (by simp [mz_cat, mz_cr, mz_ci, mz_cl, mz_cf, mz_cd, mz_cn]) dL_keyOf_4 (fun E ce q9 μ9 H locs hp hM hS hc9 hv9 hcl9 => ?_) (fun v9 μ9 H locs hp hM hS => ?_)
  · obtain ⟨e9, h⟩ := hp
    rw [e9] at hM
    obtain ⟨rfl, h⟩ := h
    refine vx_catch S.2.2.2.1 (name := "java/util/NoSuchElementException") [] ⟨0, 9, 12, 30⟩ [] (by rw [htab]; rfl) (fun z hz => absurd hz List.not_mem_nil) (by decide) (by decide) (S.2.2.2.2 _ tw_964) (hG.cast (i := 909) (by decide +kernel)) hc9 hv9 hcl9 ?_
    refine W.cs (cells' := 1) (slots' := 6) rfl rfl ?_
    refine lv_astore_n (i := 3) (lv' := [(3, .ref q9), (0, va_rf r0), (1, .int x1), (2, va_rf r2)]) S.1 S.2.1 dL_keyOf_12 rfl hl (by decide) (by simp [List.filter, mz_cat]) (fun ls hl => ?_)
    refine lv_iconst (v := (nI 1)) S.1 S.2.1 dL_keyOf_13 (by decide) ?_
    exact mz_iret S hr hlk hM hS rfl (Nat.le_of_ble_eq_true rfl) (Nat.le_of_ble_eq_true rfl) dL_keyOf_14 ⟨_, rfl, h⟩
  · obtain ⟨u4, rfl, e9, h⟩ := hp
    rw [e9] at hM
    refine W.cs (cells' := 1) (slots' := 6) rfl rfl ?_
    refine lv_i2l S.1 S.2.1 dL_keyOf_7 rfl ?_
    obtain ⟨a5, e6, h⟩ := h
    refine mz_o2 e6 ?_
    obtain ⟨k7, h⟩ := h
    obtain ⟨b8, h⟩ := h
    refine mz_last S hG hM hS dL_keyOf_8 k7 b8 (fun H locs hM hS hz9 => ?_)
    refine lv_goto (tgt := 15) S.1 S.2.1 dL_keyOf_9 (by decide) ?_
    refine lv_iconst (v := (nI 0)) S.1 S.2.1 dL_keyOf_15 (by decide) ?_
    exact mz_iret S hr hlk hM hS rfl (Nat.le_of_ble_eq_true rfl) (Nat.le_of_ble_eq_true rfl) dL_keyOf_16 ⟨_, rfl, h⟩
set_option maxRecDepth 100000 in
set_option maxHeartbeats 4000000 in
theorem c_L_attempts {l : Launch} {G : mgT} {μ : mmT} {r0 : Option Nat} {x1 : Int32} {r2 : Option Nat} {Q : Int32 → mmT → Prop} (hl0 : l.stackTraces = false) (h : w_L_attempts G μ r0 x1 r2 Q) : MH G l yL_attempts cL_attempts 4 (some .int) [(0, 9, 12, 30)] { frames := 8, cells := 1, slots := 6, locals := 143 } [va_rf r0, .int x1, va_rf r2] μ (pI Q) := by
  refine mz_MH (by decide +kernel) (by simp [lg_sl, mz_cat, mz_cr, mz_ci, mz_cl, mz_cf, mz_cd, mz_cn]) (fun p e s m args below meth c S hG hr hlk hnm htab => ?_)
  intro H locs ls hM hS hl
  have hl : lv_has ls 4 [(0, va_rf r0), (1, .int x1), (2, va_rf r2)] := by simpa [lv_args, mz_cat, mz_cr, mz_ci, mz_cl, mz_cf, mz_cd, mz_cn] using hl
  unfold w_L_attempts at h
  refine mz_aload_n (x := r2) S.1 S.2.1 dL_attempts_0 rfl (lv_at hl 2 rfl) ?_
  refine lv_iconst (v := (nI 0)) S.1 S.2.1 dL_attempts_1 (by decide) ?_
  refine mz_aload_n (x := r0) S.1 S.2.1 dL_attempts_2 rfl (lv_at hl 0 rfl) ?_
  refine lv_iload_n S.1 S.2.1 dL_attempts_3 rfl (lv_at hl 1 rfl) ?_
  obtain ⟨a1, e2, h⟩ := h
  refine mz_o1 e2 ?_
  obtain ⟨k3, h⟩ := h
  refine mz_VX S hG hM hS cf_9 k3 (As := [.int x1]) (rest := [.int (nI 0), va_rf r2]) (c_X10_attempts hl0 h) yf_X10_attempts tw_1204 tw_1205 tw_1206 ⟨Nat.le_of_ble_eq_true rfl, Nat.le_of_ble_eq_true rfl⟩ ⟨(Nat.le_of_ble_eq_true rfl), (Nat.le_of_ble_eq_true rfl)⟩ rfl hl.1 rfl (by simp [mz_cat, mz_cr, mz_ci, mz_cl, mz_cf, mz_cd, mz_cn]) dL_attempts_4 (fun E ce q9 μ9 H locs hp hM hS hc9 hv9 hcl9 => ?_) (fun v9 μ9 H locs hp hM hS => ?_)
  · obtain ⟨e9, h⟩ := hp
    rw [e9] at hM
    obtain ⟨rfl, h⟩ := h
    refine vx_catch S.2.2.2.1 (name := "java/util/NoSuchElementException") [] ⟨0, 9, 12, 30⟩ [] (by rw [htab]; rfl) (fun z hz => absurd hz List.not_mem_nil) (by decide) (by decide) (S.2.2.2.2 _ tw_964) (hG.cast (i := 909) (by decide +kernel)) hc9 hv9 hcl9 ?_
    refine W.cs (cells' := 1) (slots' := 6) rfl rfl ?_
    refine lv_astore_n (i := 3) (lv' := [(3, .ref q9), (0, va_rf r0), (1, .int x1), (2, va_rf r2)]) S.1 S.2.1 dL_attempts_12 rfl hl (by decide) (by simp [List.filter, mz_cat]) (fun ls hl => ?_)
    refine lv_iconst (v := (nI 1)) S.1 S.2.1 dL_attempts_13 (by decide) ?_
    exact mz_iret S hr hlk hM hS rfl (Nat.le_of_ble_eq_true rfl) (Nat.le_of_ble_eq_true rfl) dL_attempts_14 ⟨_, rfl, h⟩
  · obtain ⟨u4, rfl, e9, h⟩ := hp
    rw [e9] at hM
    refine W.cs (cells' := 1) (slots' := 6) rfl rfl ?_
    refine lv_i2l S.1 S.2.1 dL_attempts_7 rfl ?_
    obtain ⟨a5, e6, h⟩ := h
    refine mz_o2 e6 ?_
    obtain ⟨k7, h⟩ := h
    obtain ⟨b8, h⟩ := h
    refine mz_last S hG hM hS dL_attempts_8 k7 b8 (fun H locs hM hS hz9 => ?_)
    refine lv_goto (tgt := 15) S.1 S.2.1 dL_attempts_9 (by decide) ?_
    refine lv_iconst (v := (nI 0)) S.1 S.2.1 dL_attempts_15 (by decide) ?_
    exact mz_iret S hr hlk hM hS rfl (Nat.le_of_ble_eq_true rfl) (Nat.le_of_ble_eq_true rfl) dL_attempts_16 ⟨_, rfl, h⟩
set_option maxRecDepth 100000 in
set_option maxHeartbeats 4000000 in
theorem c_L_status {l : Launch} {G : mgT} {μ : mmT} {r0 : Option Nat} {x1 : Int32} {r2 : Option Nat} {Q : Int32 → mmT → Prop} (hl0 : l.stackTraces = false) (h : w_L_status G μ r0 x1 r2 Q) : MH G l yL_status cL_status 4 (some .int) [(0, 9, 12, 30)] { frames := 8, cells := 1, slots := 6, locals := 143 } [va_rf r0, .int x1, va_rf r2] μ (pI Q) := by
  refine mz_MH (by decide +kernel) (by simp [lg_sl, mz_cat, mz_cr, mz_ci, mz_cl, mz_cf, mz_cd, mz_cn]) (fun p e s m args below meth c S hG hr hlk hnm htab => ?_)
  intro H locs ls hM hS hl
  have hl : lv_has ls 4 [(0, va_rf r0), (1, .int x1), (2, va_rf r2)] := by simpa [lv_args, mz_cat, mz_cr, mz_ci, mz_cl, mz_cf, mz_cd, mz_cn] using hl
  unfold w_L_status at h
  refine mz_aload_n (x := r2) S.1 S.2.1 dL_status_0 rfl (lv_at hl 2 rfl) ?_
  refine lv_iconst (v := (nI 0)) S.1 S.2.1 dL_status_1 (by decide) ?_
  refine mz_aload_n (x := r0) S.1 S.2.1 dL_status_2 rfl (lv_at hl 0 rfl) ?_
  refine lv_iload_n S.1 S.2.1 dL_status_3 rfl (lv_at hl 1 rfl) ?_
  obtain ⟨a1, e2, h⟩ := h
  refine mz_o1 e2 ?_
  obtain ⟨k3, h⟩ := h
  refine mz_VX S hG hM hS cf_9 k3 (As := [.int x1]) (rest := [.int (nI 0), va_rf r2]) (c_X10_status hl0 h) yf_X10_status tw_1211 tw_1212 tw_1213 ⟨Nat.le_of_ble_eq_true rfl, Nat.le_of_ble_eq_true rfl⟩ ⟨(Nat.le_of_ble_eq_true rfl), (Nat.le_of_ble_eq_true rfl)⟩ rfl hl.1 rfl (by simp [mz_cat, mz_cr, mz_ci, mz_cl, mz_cf, mz_cd, mz_cn]) dL_status_4 (fun E ce q9 μ9 H locs hp hM hS hc9 hv9 hcl9 => ?_) (fun v9 μ9 H locs hp hM hS => ?_)
  · obtain ⟨e9, h⟩ := hp
    rw [e9] at hM
    obtain ⟨rfl, h⟩ := h
    refine vx_catch S.2.2.2.1 (name := "java/util/NoSuchElementException") [] ⟨0, 9, 12, 30⟩ [] (by rw [htab]; rfl) (fun z hz => absurd hz List.not_mem_nil) (by decide) (by decide) (S.2.2.2.2 _ tw_964) (hG.cast (i := 909) (by decide +kernel)) hc9 hv9 hcl9 ?_
    refine W.cs (cells' := 1) (slots' := 6) rfl rfl ?_
    refine lv_astore_n (i := 3) (lv' := [(3, .ref q9), (0, va_rf r0), (1, .int x1), (2, va_rf r2)]) S.1 S.2.1 dL_status_12 rfl hl (by decide) (by simp [List.filter, mz_cat]) (fun ls hl => ?_)
    refine lv_iconst (v := (nI 1)) S.1 S.2.1 dL_status_13 (by decide) ?_
    exact mz_iret S hr hlk hM hS rfl (Nat.le_of_ble_eq_true rfl) (Nat.le_of_ble_eq_true rfl) dL_status_14 ⟨_, rfl, h⟩
  · obtain ⟨u4, rfl, e9, h⟩ := hp
    rw [e9] at hM
    refine W.cs (cells' := 1) (slots' := 6) rfl rfl ?_
    refine lv_i2l S.1 S.2.1 dL_status_7 rfl ?_
    obtain ⟨a5, e6, h⟩ := h
    refine mz_o2 e6 ?_
    obtain ⟨k7, h⟩ := h
    obtain ⟨b8, h⟩ := h
    refine mz_last S hG hM hS dL_status_8 k7 b8 (fun H locs hM hS hz9 => ?_)
    refine lv_goto (tgt := 15) S.1 S.2.1 dL_status_9 (by decide) ?_
    refine lv_iconst (v := (nI 0)) S.1 S.2.1 dL_status_15 (by decide) ?_
    exact mz_iret S hr hlk hM hS rfl (Nat.le_of_ble_eq_true rfl) (Nat.le_of_ble_eq_true rfl) dL_status_16 ⟨_, rfl, h⟩
set_option maxRecDepth 100000 in
set_option maxHeartbeats 4000000 in
theorem c_L_napMinutes {l : Launch} {G : mgT} {μ : mmT} {r0 : Option Nat} {x1 : Int32} {r2 : Option Nat} {Q : Int32 → mmT → Prop} (hl0 : l.stackTraces = false) (h : w_L_napMinutes G μ r0 x1 r2 Q) : MH G l yL_napMinutes cL_napMinutes 4 (some .int) [(0, 9, 12, 30), (0, 9, 15, 15)] { frames := 8, cells := 2, slots := 12, locals := 144 } [va_rf r0, .int x1, va_rf r2] μ (pI Q) := by
  refine mz_MH (by decide +kernel) (by simp [lg_sl, mz_cat, mz_cr, mz_ci, mz_cl, mz_cf, mz_cd, mz_cn]) (fun p e s m args below meth c S hG hr hlk hnm htab => ?_)
  intro H locs ls hM hS hl
  have hl : lv_has ls 4 [(0, va_rf r0), (1, .int x1), (2, va_rf r2)] := by simpa [lv_args, mz_cat, mz_cr, mz_ci, mz_cl, mz_cf, mz_cd, mz_cn] using hl
  unfold w_L_napMinutes at h
  refine mz_aload_n (x := r2) S.1 S.2.1 dL_napMinutes_0 rfl (lv_at hl 2 rfl) ?_
  refine lv_iconst (v := (nI 0)) S.1 S.2.1 dL_napMinutes_1 (by decide) ?_
  refine mz_aload_n (x := r0) S.1 S.2.1 dL_napMinutes_2 rfl (lv_at hl 0 rfl) ?_
  refine lv_iload_n S.1 S.2.1 dL_napMinutes_3 rfl (lv_at hl 1 rfl) ?_
  obtain ⟨a1, e2, h⟩ := h
  refine mz_o1 e2 ?_
  obtain ⟨k3, h⟩ := h
  refine mz_VX S hG hM hS cf_9 k3 (As := [.int x1]) (rest := [.int (nI 0), va_rf r2]) (c_X10_napMinutes hl0 h) yf_X10_napMinutes tw_1218 tw_1219 tw_1220 ⟨Nat.le_of_ble_eq_true rfl, Nat.le_of_ble_eq_true rfl⟩ ⟨(Nat.le_of_ble_eq_true rfl), (Nat.le_of_ble_eq_true rfl)⟩ rfl hl.1 rfl (by simp [mz_cat, mz_cr, mz_ci, mz_cl, mz_cf, mz_cd, mz_cn]) dL_napMinutes_4 (fun E ce q9 μ9 H locs hp hM hS hc9 hv9 hcl9 => ?_) (fun v9 μ9 H locs hp hM hS => ?_)
  · obtain ⟨e9, h⟩ := hp
    rw [e9] at hM
    rcases h with ⟨rfl, h⟩ | h
    · refine vx_catch S.2.2.2.1 (name := "java/util/NoSuchElementException") [] ⟨0, 9, 12, 30⟩ [⟨0, 9, 15, 15⟩] (by rw [htab]; rfl) (fun z hz => absurd hz List.not_mem_nil) (by decide) (by decide) (S.2.2.2.2 _ tw_964) (hG.cast (i := 909) (by decide +kernel)) hc9 hv9 hcl9 ?_
      refine W.cs (cells' := 2) (slots' := 12) rfl rfl ?_
      refine lv_astore_n (i := 3) (lv' := [(3, .ref q9), (0, va_rf r0), (1, .int x1), (2, va_rf r2)]) S.1 S.2.1 dL_napMinutes_12 rfl hl (by decide) (by simp [List.filter, mz_cat]) (fun ls hl => ?_)
      refine lv_iconst (v := (nI 1)) S.1 S.2.1 dL_napMinutes_13 (by decide) ?_
      exact mz_iret S hr hlk hM hS rfl (Nat.le_of_ble_eq_true rfl) (Nat.le_of_ble_eq_true rfl) dL_napMinutes_14 ⟨_, rfl, h⟩
    obtain ⟨rfl, h⟩ := h
    refine vx_catch S.2.2.2.1 (name := "java/lang/IllegalStateException") [⟨0, 9, 12, 30⟩] ⟨0, 9, 15, 15⟩ [] (by rw [htab]; rfl) (fun z hz => (List.mem_cons.mp hz).elim (fun e9 => by subst e9; exact Or.inr ⟨by decide, "java/util/NoSuchElementException", S.2.2.2.2 _ tw_964, hG.nc (by decide)⟩) (fun hz => absurd hz List.not_mem_nil)) (by decide) (by decide) (S.2.2.2.2 _ tw_858) (hG.cast (i := 880) (by decide +kernel)) hc9 hv9 hcl9 ?_
    refine W.cs (cells' := 2) (slots' := 12) rfl rfl ?_
    refine lv_astore_n (i := 3) (lv' := [(3, .ref q9), (0, va_rf r0), (1, .int x1), (2, va_rf r2)]) S.1 S.2.1 dL_napMinutes_15 rfl hl (by decide) (by simp [List.filter, mz_cat]) (fun ls hl => ?_)
    refine lv_iconst (v := (nI 2)) S.1 S.2.1 dL_napMinutes_16 (by decide) ?_
    exact mz_iret S hr hlk hM hS rfl (Nat.le_of_ble_eq_true rfl) (Nat.le_of_ble_eq_true rfl) dL_napMinutes_17 ⟨_, rfl, h⟩
  · obtain ⟨u4, rfl, e9, h⟩ := hp
    rw [e9] at hM
    refine W.cs (cells' := 2) (slots' := 12) rfl rfl ?_
    refine lv_i2l S.1 S.2.1 dL_napMinutes_7 rfl ?_
    obtain ⟨a5, e6, h⟩ := h
    refine mz_o2 e6 ?_
    obtain ⟨k7, h⟩ := h
    obtain ⟨b8, h⟩ := h
    refine mz_last S hG hM hS dL_napMinutes_8 k7 b8 (fun H locs hM hS hz9 => ?_)
    refine lv_goto (tgt := 18) S.1 S.2.1 dL_napMinutes_9 (by decide) ?_
    refine lv_iconst (v := (nI 0)) S.1 S.2.1 dL_napMinutes_18 (by decide) ?_
    exact mz_iret S hr hlk hM hS rfl (Nat.le_of_ble_eq_true rfl) (Nat.le_of_ble_eq_true rfl) dL_napMinutes_19 ⟨_, rfl, h⟩
set_option maxRecDepth 100000 in
set_option maxHeartbeats 4000000 in
theorem c_L_waitingMessage {l : Launch} {G : mgT} {μ : mmT} {r0 : Option Nat} {x1 : Int32} {r2 : Option Nat} {Q : Int32 → mmT → Prop} (hl0 : l.stackTraces = false) (h : w_L_waitingMessage G μ r0 x1 r2 Q) : MH G l yL_waitingMessage cL_waitingMessage 4 (some .int) [(0, 9, 12, 30)] { frames := 7, cells := 1, slots := 6, locals := 122 } [va_rf r0, .int x1, va_rf r2] μ (pI Q) := by
  refine mz_MH (by decide +kernel) (by simp [lg_sl, mz_cat, mz_cr, mz_ci, mz_cl, mz_cf, mz_cd, mz_cn]) (fun p e s m args below meth c S hG hr hlk hnm htab => ?_)
  intro H locs ls hM hS hl
  have hl : lv_has ls 4 [(0, va_rf r0), (1, .int x1), (2, va_rf r2)] := by simpa [lv_args, mz_cat, mz_cr, mz_ci, mz_cl, mz_cf, mz_cd, mz_cn] using hl
  unfold w_L_waitingMessage at h
  refine mz_aload_n (x := r2) S.1 S.2.1 dL_waitingMessage_0 rfl (lv_at hl 2 rfl) ?_
  refine lv_iconst (v := (nI 0)) S.1 S.2.1 dL_waitingMessage_1 (by decide) ?_
  refine mz_aload_n (x := r0) S.1 S.2.1 dL_waitingMessage_2 rfl (lv_at hl 0 rfl) ?_
  refine lv_iload_n S.1 S.2.1 dL_waitingMessage_3 rfl (lv_at hl 1 rfl) ?_
  obtain ⟨a1, e2, h⟩ := h
  refine mz_o1 e2 ?_
  obtain ⟨k3, h⟩ := h
  refine mz_VX S hG hM hS cf_9 k3 (As := [.int x1]) (rest := [.int (nI 0), va_rf r2]) (c_X10_waitingMessage hl0 h) yf_X10_waitingMessage tw_1226 tw_1227 tw_1228 ⟨Nat.le_of_ble_eq_true rfl, Nat.le_of_ble_eq_true rfl⟩ ⟨(Nat.le_of_ble_eq_true rfl), (Nat.le_of_ble_eq_true rfl)⟩ rfl hl.1 rfl (by simp [mz_cat, mz_cr, mz_ci, mz_cl, mz_cf, mz_cd, mz_cn]) dL_waitingMessage_4 (fun E ce q9 μ9 H locs hp hM hS hc9 hv9 hcl9 => ?_) (fun v9 μ9 H locs hp hM hS => ?_)
  · obtain ⟨e9, h⟩ := hp
    rw [e9] at hM
    obtain ⟨rfl, h⟩ := h
    refine vx_catch S.2.2.2.1 (name := "java/util/NoSuchElementException") [] ⟨0, 9, 12, 30⟩ [] (by rw [htab]; rfl) (fun z hz => absurd hz List.not_mem_nil) (by decide) (by decide) (S.2.2.2.2 _ tw_964) (hG.cast (i := 909) (by decide +kernel)) hc9 hv9 hcl9 ?_
    refine W.cs (cells' := 1) (slots' := 6) rfl rfl ?_
    refine lv_astore_n (i := 3) (lv' := [(3, .ref q9), (0, va_rf r0), (1, .int x1), (2, va_rf r2)]) S.1 S.2.1 dL_waitingMessage_12 rfl hl (by decide) (by simp [List.filter, mz_cat]) (fun ls hl => ?_)
    refine lv_iconst (v := (nI 1)) S.1 S.2.1 dL_waitingMessage_13 (by decide) ?_
    exact mz_iret S hr hlk hM hS rfl (Nat.le_of_ble_eq_true rfl) (Nat.le_of_ble_eq_true rfl) dL_waitingMessage_14 ⟨_, rfl, h⟩
  · obtain ⟨u4, rfl, e9, h⟩ := hp
    rw [e9] at hM
    refine W.cs (cells' := 1) (slots' := 6) rfl rfl ?_
    refine lv_i2l S.1 S.2.1 dL_waitingMessage_7 rfl ?_
    obtain ⟨a5, e6, h⟩ := h
    refine mz_o2 e6 ?_
    obtain ⟨k7, h⟩ := h
    obtain ⟨b8, h⟩ := h
    refine mz_last S hG hM hS dL_waitingMessage_8 k7 b8 (fun H locs hM hS hz9 => ?_)
    refine lv_goto (tgt := 15) S.1 S.2.1 dL_waitingMessage_9 (by decide) ?_
    refine lv_iconst (v := (nI 0)) S.1 S.2.1 dL_waitingMessage_15 (by decide) ?_
    exact mz_iret S hr hlk hM hS rfl (Nat.le_of_ble_eq_true rfl) (Nat.le_of_ble_eq_true rfl) dL_waitingMessage_16 ⟨_, rfl, h⟩
set_option maxRecDepth 100000 in
set_option maxHeartbeats 4000000 in
theorem c_L_wouldBeLost {l : Launch} {G : mgT} {μ : mmT} {r0 : Option Nat} {x1 : Int32} {r2 : Option Nat} {Q : Int32 → mmT → Prop} (hl0 : l.stackTraces = false) (h : w_L_wouldBeLost G μ r0 x1 r2 Q) : MH G l yL_wouldBeLost cL_wouldBeLost 4 (some .int) [(0, 16, 19, 30), (0, 16, 22, 15)] { frames := 8, cells := 2, slots := 12, locals := 144 } [va_rf r0, .int x1, va_rf r2] μ (pI Q) := by
  refine mz_MH (by decide +kernel) (by simp [lg_sl, mz_cat, mz_cr, mz_ci, mz_cl, mz_cf, mz_cd, mz_cn]) (fun p e s m args below meth c S hG hr hlk hnm htab => ?_)
  have hB15 : ∀ (s0 : Option Nat) (s1 : Int32) (s2 : Int64) (μ : mmT) (H : Heap) (locs : List Loc) (ls : Array Slot), Mm G μ H → va_S (Ah G) s.heap H locs → lv_has ls 4 [] → w_L_wouldBeLost_b15 G Q  s0 s1 s2 μ → W p l e { frames := 8, cells := 2, slots := 12, locals := 144 } s m args below meth c H locs 2 12 (MQ below (mQ G (pI Q)) args s 2 12 (Ah G)) (F0 m 15 ls [.long s2, .int s1, va_rf s0]) := by
    intro  s0 s1 s2 μ H locs ls hM hS hl h
    unfold w_L_wouldBeLost_b15 at h
    obtain ⟨a6, e7, h⟩ := h
    refine mz_o2 e7 ?_
    obtain ⟨k8, h⟩ := h
    obtain ⟨b9, h⟩ := h
    refine mz_last S hG hM hS dL_wouldBeLost_15 k8 b9 (fun H locs hM hS hz9 => ?_)
    refine lv_goto (tgt := 25) S.1 S.2.1 dL_wouldBeLost_16 (by decide) ?_
    refine lv_iconst (v := (nI 0)) S.1 S.2.1 dL_wouldBeLost_25 (by decide) ?_
    exact mz_iret S hr hlk hM hS rfl (Nat.le_of_ble_eq_true rfl) (Nat.le_of_ble_eq_true rfl) dL_wouldBeLost_26 ⟨_, rfl, h⟩
  intro H locs ls hM hS hl
  have hl : lv_has ls 4 [(0, va_rf r0), (1, .int x1), (2, va_rf r2)] := by simpa [lv_args, mz_cat, mz_cr, mz_ci, mz_cl, mz_cf, mz_cd, mz_cn] using hl
  unfold w_L_wouldBeLost at h
  refine mz_aload_n (x := r2) S.1 S.2.1 dL_wouldBeLost_0 rfl (lv_at hl 2 rfl) ?_
  refine lv_iconst (v := (nI 0)) S.1 S.2.1 dL_wouldBeLost_1 (by decide) ?_
  refine mz_aload_n (x := r0) S.1 S.2.1 dL_wouldBeLost_2 rfl (lv_at hl 0 rfl) ?_
  refine lv_iload_n S.1 S.2.1 dL_wouldBeLost_3 rfl (lv_at hl 1 rfl) ?_
  obtain ⟨a1, e2, h⟩ := h
  refine mz_o1 e2 ?_
  obtain ⟨k3, h⟩ := h
  refine mz_VX S hG hM hS cf_9 k3 (As := [.int x1]) (rest := [.int (nI 0), va_rf r2]) (c_X10_wouldBeLost hl0 h) yf_X10_wouldBeLost tw_1234 tw_1235 tw_1236 ⟨Nat.le_of_ble_eq_true rfl, Nat.le_of_ble_eq_true rfl⟩ ⟨(Nat.le_of_ble_eq_true rfl), (Nat.le_of_ble_eq_true rfl)⟩ rfl hl.1 rfl (by simp [mz_cat, mz_cr, mz_ci, mz_cl, mz_cf, mz_cd, mz_cn]) dL_wouldBeLost_4 (fun E ce q9 μ9 H locs hp hM hS hc9 hv9 hcl9 => ?_) (fun v9 μ9 H locs hp hM hS => ?_)
  · obtain ⟨e9, h⟩ := hp
    rw [e9] at hM
    rcases h with ⟨rfl, h⟩ | h
    · refine vx_catch S.2.2.2.1 (name := "java/util/NoSuchElementException") [] ⟨0, 16, 19, 30⟩ [⟨0, 16, 22, 15⟩] (by rw [htab]; rfl) (fun z hz => absurd hz List.not_mem_nil) (by decide) (by decide) (S.2.2.2.2 _ tw_964) (hG.cast (i := 909) (by decide +kernel)) hc9 hv9 hcl9 ?_
      refine W.cs (cells' := 2) (slots' := 12) rfl rfl ?_
      refine lv_astore_n (i := 3) (lv' := [(3, .ref q9), (0, va_rf r0), (1, .int x1), (2, va_rf r2)]) S.1 S.2.1 dL_wouldBeLost_19 rfl hl (by decide) (by simp [List.filter, mz_cat]) (fun ls hl => ?_)
      refine lv_iconst (v := (nI 1)) S.1 S.2.1 dL_wouldBeLost_20 (by decide) ?_
      exact mz_iret S hr hlk hM hS rfl (Nat.le_of_ble_eq_true rfl) (Nat.le_of_ble_eq_true rfl) dL_wouldBeLost_21 ⟨_, rfl, h⟩
    obtain ⟨rfl, h⟩ := h
    refine vx_catch S.2.2.2.1 (name := "java/lang/IllegalStateException") [⟨0, 16, 19, 30⟩] ⟨0, 16, 22, 15⟩ [] (by rw [htab]; rfl) (fun z hz => (List.mem_cons.mp hz).elim (fun e9 => by subst e9; exact Or.inr ⟨by decide, "java/util/NoSuchElementException", S.2.2.2.2 _ tw_964, hG.nc (by decide)⟩) (fun hz => absurd hz List.not_mem_nil)) (by decide) (by decide) (S.2.2.2.2 _ tw_858) (hG.cast (i := 880) (by decide +kernel)) hc9 hv9 hcl9 ?_
    refine W.cs (cells' := 2) (slots' := 12) rfl rfl ?_
    refine lv_astore_n (i := 3) (lv' := [(3, .ref q9), (0, va_rf r0), (1, .int x1), (2, va_rf r2)]) S.1 S.2.1 dL_wouldBeLost_22 rfl hl (by decide) (by simp [List.filter, mz_cat]) (fun ls hl => ?_)
    refine lv_iconst (v := (nI 2)) S.1 S.2.1 dL_wouldBeLost_23 (by decide) ?_
    exact mz_iret S hr hlk hM hS rfl (Nat.le_of_ble_eq_true rfl) (Nat.le_of_ble_eq_true rfl) dL_wouldBeLost_24 ⟨_, rfl, h⟩
  · obtain ⟨u4, rfl, e9, h⟩ := hp
    rw [e9] at hM
    refine W.cs (cells' := 2) (slots' := 12) rfl rfl ?_
    refine lv_if_eq (tgt := 14) S.1 S.2.1 dL_wouldBeLost_7 (by decide) (fun c5 => ?_) (fun c5 => ?_)
    · have h := h.1 c5
      refine lv_lconst (v := lN 0) S.1 S.2.1 dL_wouldBeLost_14 rfl ?_
      refine W.widen (k := 2) (n := 12) (by omega) (by omega) ?_
      exact hB15  r2 (nI 0) (lN 0) μ H locs ls hM hS (lv_sub hl [] rfl) h
    · have h := h.2 c5
      refine lv_lconst (v := lN 1) S.1 S.2.1 dL_wouldBeLost_10 rfl ?_
      refine lv_goto (tgt := 15) S.1 S.2.1 dL_wouldBeLost_11 (by decide) ?_
      refine W.widen (k := 2) (n := 12) (by omega) (by omega) ?_
      exact hB15  r2 (nI 0) (lN 1) μ H locs ls hM hS (lv_sub hl [] rfl) h
set_option maxRecDepth 100000 in
set_option maxHeartbeats 4000000 in
theorem c_L_napLength {l : Launch} {G : mgT} {μ : mmT} {r0 : Option Nat} {x1 : Int32} {r2 : Option Nat} {Q : Int32 → mmT → Prop} (hl0 : l.stackTraces = false) (h : w_L_napLength G μ r0 x1 r2 Q) : MH G l yL_napLength cL_napLength 4 (some .int) [(0, 8, 11, 13)] { frames := 7, cells := 1, slots := 6, locals := 121 } [va_rf r0, .int x1, va_rf r2] μ (pI Q) := by
  refine mz_MH (by decide +kernel) (by simp [lg_sl, mz_cat, mz_cr, mz_ci, mz_cl, mz_cf, mz_cd, mz_cn]) (fun p e s m args below meth c S hG hr hlk hnm htab => ?_)
  intro H locs ls hM hS hl
  have hl : lv_has ls 4 [(0, va_rf r0), (1, .int x1), (2, va_rf r2)] := by simpa [lv_args, mz_cat, mz_cr, mz_ci, mz_cl, mz_cf, mz_cd, mz_cn] using hl
  unfold w_L_napLength at h
  refine mz_aload_n (x := r2) S.1 S.2.1 dL_napLength_0 rfl (lv_at hl 2 rfl) ?_
  refine lv_iconst (v := (nI 0)) S.1 S.2.1 dL_napLength_1 (by decide) ?_
  refine mz_aload_n (x := r0) S.1 S.2.1 dL_napLength_2 rfl (lv_at hl 0 rfl) ?_
  refine lv_iload_n S.1 S.2.1 dL_napLength_3 rfl (lv_at hl 1 rfl) ?_
  obtain ⟨a1, e2, h⟩ := h
  refine mz_o1 e2 ?_
  obtain ⟨k3, h⟩ := h
  refine mz_VX S hG hM hS cf_9 k3 (As := [.int x1]) (rest := [.int (nI 0), va_rf r2]) (c_X10_napLength hl0 h) yf_X10_napLength tw_1243 tw_1244 tw_1245 ⟨Nat.le_of_ble_eq_true rfl, Nat.le_of_ble_eq_true rfl⟩ ⟨(Nat.le_of_ble_eq_true rfl), (Nat.le_of_ble_eq_true rfl)⟩ rfl hl.1 rfl (by simp [mz_cat, mz_cr, mz_ci, mz_cl, mz_cf, mz_cd, mz_cn]) dL_napLength_4 (fun E ce q9 μ9 H locs hp hM hS hc9 hv9 hcl9 => ?_) (fun v9 μ9 H locs hp hM hS => ?_)
  · obtain ⟨e9, h⟩ := hp
    rw [e9] at hM
    obtain ⟨rfl, h⟩ := h
    refine vx_catch S.2.2.2.1 (name := "java/lang/IllegalArgumentException") [] ⟨0, 8, 11, 13⟩ [] (by rw [htab]; rfl) (fun z hz => absurd hz List.not_mem_nil) (by decide) (by decide) (S.2.2.2.2 _ tw_857) (hG.cast (i := 657) (by decide +kernel)) hc9 hv9 hcl9 ?_
    refine W.cs (cells' := 1) (slots' := 6) rfl rfl ?_
    refine lv_astore_n (i := 3) (lv' := [(3, .ref q9), (0, va_rf r0), (1, .int x1), (2, va_rf r2)]) S.1 S.2.1 dL_napLength_11 rfl hl (by decide) (by simp [List.filter, mz_cat]) (fun ls hl => ?_)
    refine lv_iconst (v := (nI 1)) S.1 S.2.1 dL_napLength_12 (by decide) ?_
    exact mz_iret S hr hlk hM hS rfl (Nat.le_of_ble_eq_true rfl) (Nat.le_of_ble_eq_true rfl) dL_napLength_13 ⟨_, rfl, h⟩
  · obtain ⟨u4, rfl, e9, h⟩ := hp
    rw [e9] at hM
    refine W.cs (cells' := 1) (slots' := 6) rfl rfl ?_
    obtain ⟨a5, e6, h⟩ := h
    refine mz_o2 e6 ?_
    obtain ⟨k7, h⟩ := h
    obtain ⟨b8, h⟩ := h
    refine mz_last S hG hM hS dL_napLength_7 k7 b8 (fun H locs hM hS hz9 => ?_)
    refine lv_goto (tgt := 14) S.1 S.2.1 dL_napLength_8 (by decide) ?_
    refine lv_iconst (v := (nI 0)) S.1 S.2.1 dL_napLength_14 (by decide) ?_
    exact mz_iret S hr hlk hM hS rfl (Nat.le_of_ble_eq_true rfl) (Nat.le_of_ble_eq_true rfl) dL_napLength_15 ⟨_, rfl, h⟩
set_option maxRecDepth 100000 in
set_option maxHeartbeats 4000000 in
theorem c_L_napLengthByDoubling {l : Launch} {G : mgT} {μ : mmT} {r0 : Option Nat} {x1 : Int32} {r2 : Option Nat} {Q : Int32 → mmT → Prop} (hl0 : l.stackTraces = false) (h : w_L_napLengthByDoubling G μ r0 x1 r2 Q) : MH G l yL_napLengthByDoubling cL_napLengthByDoubling 4 (some .int) [(0, 8, 11, 13)] { frames := 7, cells := 1, slots := 6, locals := 121 } [va_rf r0, .int x1, va_rf r2] μ (pI Q) := by
  refine mz_MH (by decide +kernel) (by simp [lg_sl, mz_cat, mz_cr, mz_ci, mz_cl, mz_cf, mz_cd, mz_cn]) (fun p e s m args below meth c S hG hr hlk hnm htab => ?_)
  intro H locs ls hM hS hl
  have hl : lv_has ls 4 [(0, va_rf r0), (1, .int x1), (2, va_rf r2)] := by simpa [lv_args, mz_cat, mz_cr, mz_ci, mz_cl, mz_cf, mz_cd, mz_cn] using hl
  unfold w_L_napLengthByDoubling at h
  refine mz_aload_n (x := r2) S.1 S.2.1 dL_napLengthByDoubling_0 rfl (lv_at hl 2 rfl) ?_
  refine lv_iconst (v := (nI 0)) S.1 S.2.1 dL_napLengthByDoubling_1 (by decide) ?_
  refine mz_aload_n (x := r0) S.1 S.2.1 dL_napLengthByDoubling_2 rfl (lv_at hl 0 rfl) ?_
  refine lv_iload_n S.1 S.2.1 dL_napLengthByDoubling_3 rfl (lv_at hl 1 rfl) ?_
  obtain ⟨a1, e2, h⟩ := h
  refine mz_o1 e2 ?_
  obtain ⟨k3, h⟩ := h
  refine mz_VX S hG hM hS cf_9 k3 (As := [.int x1]) (rest := [.int (nI 0), va_rf r2]) (c_X10_napLengthByDoubling hl0 h) yf_X10_napLengthByDoubling tw_1251 tw_1252 tw_1253 ⟨Nat.le_of_ble_eq_true rfl, Nat.le_of_ble_eq_true rfl⟩ ⟨(Nat.le_of_ble_eq_true rfl), (Nat.le_of_ble_eq_true rfl)⟩ rfl hl.1 rfl (by simp [mz_cat, mz_cr, mz_ci, mz_cl, mz_cf, mz_cd, mz_cn]) dL_napLengthByDoubling_4 (fun E ce q9 μ9 H locs hp hM hS hc9 hv9 hcl9 => ?_) (fun v9 μ9 H locs hp hM hS => ?_)
  · obtain ⟨e9, h⟩ := hp
    rw [e9] at hM
    obtain ⟨rfl, h⟩ := h
    refine vx_catch S.2.2.2.1 (name := "java/lang/IllegalArgumentException") [] ⟨0, 8, 11, 13⟩ [] (by rw [htab]; rfl) (fun z hz => absurd hz List.not_mem_nil) (by decide) (by decide) (S.2.2.2.2 _ tw_857) (hG.cast (i := 657) (by decide +kernel)) hc9 hv9 hcl9 ?_
    refine W.cs (cells' := 1) (slots' := 6) rfl rfl ?_
    refine lv_astore_n (i := 3) (lv' := [(3, .ref q9), (0, va_rf r0), (1, .int x1), (2, va_rf r2)]) S.1 S.2.1 dL_napLengthByDoubling_11 rfl hl (by decide) (by simp [List.filter, mz_cat]) (fun ls hl => ?_)
    refine lv_iconst (v := (nI 1)) S.1 S.2.1 dL_napLengthByDoubling_12 (by decide) ?_
    exact mz_iret S hr hlk hM hS rfl (Nat.le_of_ble_eq_true rfl) (Nat.le_of_ble_eq_true rfl) dL_napLengthByDoubling_13 ⟨_, rfl, h⟩
  · obtain ⟨u4, rfl, e9, h⟩ := hp
    rw [e9] at hM
    refine W.cs (cells' := 1) (slots' := 6) rfl rfl ?_
    obtain ⟨a5, e6, h⟩ := h
    refine mz_o2 e6 ?_
    obtain ⟨k7, h⟩ := h
    obtain ⟨b8, h⟩ := h
    refine mz_last S hG hM hS dL_napLengthByDoubling_7 k7 b8 (fun H locs hM hS hz9 => ?_)
    refine lv_goto (tgt := 14) S.1 S.2.1 dL_napLengthByDoubling_8 (by decide) ?_
    refine lv_iconst (v := (nI 0)) S.1 S.2.1 dL_napLengthByDoubling_14 (by decide) ?_
    exact mz_iret S hr hlk hM hS rfl (Nat.le_of_ble_eq_true rfl) (Nat.le_of_ble_eq_true rfl) dL_napLengthByDoubling_15 ⟨_, rfl, h⟩
set_option maxRecDepth 100000 in
set_option maxHeartbeats 4000000 in
theorem c_L_minutesUntilDelivered {l : Launch} {G : mgT} {μ : mmT} {r0 : Option Nat} {x1 : Int32} {r2 : Option Nat} {Q : Int32 → mmT → Prop} (hl0 : l.stackTraces = false) (h : w_L_minutesUntilDelivered G μ r0 x1 r2 Q) : MH G l yL_minutesUntilDelivered cL_minutesUntilDelivered 4 (some .int) [(0, 9, 12, 30), (0, 9, 15, 15)] { frames := 8, cells := 2, slots := 12, locals := 217 } [va_rf r0, .int x1, va_rf r2] μ (pI Q) := by
  refine mz_MH (by decide +kernel) (by simp [lg_sl, mz_cat, mz_cr, mz_ci, mz_cl, mz_cf, mz_cd, mz_cn]) (fun p e s m args below meth c S hG hr hlk hnm htab => ?_)
  intro H locs ls hM hS hl
  have hl : lv_has ls 4 [(0, va_rf r0), (1, .int x1), (2, va_rf r2)] := by simpa [lv_args, mz_cat, mz_cr, mz_ci, mz_cl, mz_cf, mz_cd, mz_cn] using hl
  unfold w_L_minutesUntilDelivered at h
  refine mz_aload_n (x := r2) S.1 S.2.1 dL_minutesUntilDelivered_0 rfl (lv_at hl 2 rfl) ?_
  refine lv_iconst (v := (nI 0)) S.1 S.2.1 dL_minutesUntilDelivered_1 (by decide) ?_
  refine mz_aload_n (x := r0) S.1 S.2.1 dL_minutesUntilDelivered_2 rfl (lv_at hl 0 rfl) ?_
  refine lv_iload_n S.1 S.2.1 dL_minutesUntilDelivered_3 rfl (lv_at hl 1 rfl) ?_
  obtain ⟨a1, e2, h⟩ := h
  refine mz_o1 e2 ?_
  obtain ⟨k3, h⟩ := h
  refine mz_VX S hG hM hS cf_9 k3 (As := [.int x1]) (rest := [.int (nI 0), va_rf r2]) (c_X10_minutesUntilDelivered hl0 h) yf_X10_minutesUntilDelivered tw_1258 tw_1259 tw_1260 ⟨Nat.le_of_ble_eq_true rfl, Nat.le_of_ble_eq_true rfl⟩ ⟨(Nat.le_of_ble_eq_true rfl), (Nat.le_of_ble_eq_true rfl)⟩ rfl hl.1 rfl (by simp [mz_cat, mz_cr, mz_ci, mz_cl, mz_cf, mz_cd, mz_cn]) dL_minutesUntilDelivered_4 (fun E ce q9 μ9 H locs hp hM hS hc9 hv9 hcl9 => ?_) (fun v9 μ5 H locs hp hM hS => ?_)
  · have h := hp
    rcases h with ⟨rfl, h⟩ | h
    · refine vx_catch S.2.2.2.1 (name := "java/util/NoSuchElementException") [] ⟨0, 9, 12, 30⟩ [⟨0, 9, 15, 15⟩] (by rw [htab]; rfl) (fun z hz => absurd hz List.not_mem_nil) (by decide) (by decide) (S.2.2.2.2 _ tw_964) (hG.cast (i := 909) (by decide +kernel)) hc9 hv9 hcl9 ?_
      refine W.cs (cells' := 2) (slots' := 12) rfl rfl ?_
      refine lv_astore_n (i := 3) (lv' := [(3, .ref q9), (0, va_rf r0), (1, .int x1), (2, va_rf r2)]) S.1 S.2.1 dL_minutesUntilDelivered_12 rfl hl (by decide) (by simp [List.filter, mz_cat]) (fun ls hl => ?_)
      refine lv_iconst (v := (nI 1)) S.1 S.2.1 dL_minutesUntilDelivered_13 (by decide) ?_
      exact mz_iret S hr hlk hM hS rfl (Nat.le_of_ble_eq_true rfl) (Nat.le_of_ble_eq_true rfl) dL_minutesUntilDelivered_14 ⟨_, rfl, h⟩
    obtain ⟨rfl, h⟩ := h
    refine vx_catch S.2.2.2.1 (name := "java/lang/IllegalStateException") [⟨0, 9, 12, 30⟩] ⟨0, 9, 15, 15⟩ [] (by rw [htab]; rfl) (fun z hz => (List.mem_cons.mp hz).elim (fun e9 => by subst e9; exact Or.inr ⟨by decide, "java/util/NoSuchElementException", S.2.2.2.2 _ tw_964, hG.nc (by decide)⟩) (fun hz => absurd hz List.not_mem_nil)) (by decide) (by decide) (S.2.2.2.2 _ tw_858) (hG.cast (i := 880) (by decide +kernel)) hc9 hv9 hcl9 ?_
    refine W.cs (cells' := 2) (slots' := 12) rfl rfl ?_
    refine lv_astore_n (i := 3) (lv' := [(3, .ref q9), (0, va_rf r0), (1, .int x1), (2, va_rf r2)]) S.1 S.2.1 dL_minutesUntilDelivered_15 rfl hl (by decide) (by simp [List.filter, mz_cat]) (fun ls hl => ?_)
    refine lv_iconst (v := (nI 2)) S.1 S.2.1 dL_minutesUntilDelivered_16 (by decide) ?_
    exact mz_iret S hr hlk hM hS rfl (Nat.le_of_ble_eq_true rfl) (Nat.le_of_ble_eq_true rfl) dL_minutesUntilDelivered_17 ⟨_, rfl, h⟩
  · obtain ⟨u4, rfl, h⟩ := hp
    refine W.cs (cells' := 2) (slots' := 12) rfl rfl ?_
    refine lv_i2l S.1 S.2.1 dL_minutesUntilDelivered_7 rfl ?_
    obtain ⟨a6, e7, h⟩ := h
    refine mz_o2 e7 ?_
    obtain ⟨k8, h⟩ := h
    obtain ⟨b9, h⟩ := h
    refine mz_last S hG hM hS dL_minutesUntilDelivered_8 k8 b9 (fun H locs hM hS hz9 => ?_)
    refine lv_goto (tgt := 18) S.1 S.2.1 dL_minutesUntilDelivered_9 (by decide) ?_
    refine lv_iconst (v := (nI 0)) S.1 S.2.1 dL_minutesUntilDelivered_18 (by decide) ?_
    exact mz_iret S hr hlk hM hS rfl (Nat.le_of_ble_eq_true rfl) (Nat.le_of_ble_eq_true rfl) dL_minutesUntilDelivered_19 ⟨_, rfl, h⟩
set_option maxRecDepth 100000 in
set_option maxHeartbeats 4000000 in
theorem c_L_meanAttempts {l : Launch} {G : mgT} {μ : mmT} {r0 : Option Nat} {r1 : Option Nat} {Q : Int32 → mmT → Prop} (hl0 : l.stackTraces = false) (h : w_L_meanAttempts G μ r0 r1 Q) : MH G l yL_meanAttempts cL_meanAttempts 3 (some .int) [(0, 7, 10, 115)] { frames := 7, cells := 1, slots := 6, locals := 120 } [va_rf r0, va_rf r1] μ (pI Q) := by
  refine mz_MH (by decide +kernel) (by simp [lg_sl, mz_cat, mz_cr, mz_ci, mz_cl, mz_cf, mz_cd, mz_cn]) (fun p e s m args below meth c S hG hr hlk hnm htab => ?_)
  intro H locs ls hM hS hl
  have hl : lv_has ls 3 [(0, va_rf r0), (1, va_rf r1)] := by simpa [lv_args, mz_cat, mz_cr, mz_ci, mz_cl, mz_cf, mz_cd, mz_cn] using hl
  unfold w_L_meanAttempts at h
  refine mz_aload_n (x := r1) S.1 S.2.1 dL_meanAttempts_0 rfl (lv_at hl 1 rfl) ?_
  refine lv_iconst (v := (nI 0)) S.1 S.2.1 dL_meanAttempts_1 (by decide) ?_
  refine mz_aload_n (x := r0) S.1 S.2.1 dL_meanAttempts_2 rfl (lv_at hl 0 rfl) ?_
  obtain ⟨a1, e2, h⟩ := h
  refine mz_o0 e2 ?_
  obtain ⟨k3, h⟩ := h
  refine mz_VX S hG hM hS cf_9 k3 (As := []) (rest := [.int (nI 0), va_rf r1]) (c_X10_meanAttempts hl0 h) yf_X10_meanAttempts tw_1285 tw_1286 tw_1287 ⟨Nat.le_of_ble_eq_true rfl, Nat.le_of_ble_eq_true rfl⟩ ⟨(Nat.le_of_ble_eq_true rfl), (Nat.le_of_ble_eq_true rfl)⟩ rfl hl.1 rfl (by simp [mz_cat, mz_cr, mz_ci, mz_cl, mz_cf, mz_cd, mz_cn]) dL_meanAttempts_3 (fun E ce q9 μ9 H locs hp hM hS hc9 hv9 hcl9 => ?_) (fun v9 μ9 H locs hp hM hS => ?_)
  · obtain ⟨e9, h⟩ := hp
    rw [e9] at hM
    obtain ⟨rfl, h⟩ := h
    refine vx_catch S.2.2.2.1 (name := "java/lang/ArithmeticException") [] ⟨0, 7, 10, 115⟩ [] (by rw [htab]; rfl) (fun z hz => absurd hz List.not_mem_nil) (by decide) (by decide) (S.2.2.2.2 _ tw_1271) (hG.cast (i := 1283) (by decide +kernel)) hc9 hv9 hcl9 ?_
    refine W.cs (cells' := 1) (slots' := 6) rfl rfl ?_
    refine lv_astore_n (i := 2) (lv' := [(2, .ref q9), (0, va_rf r0), (1, va_rf r1)]) S.1 S.2.1 dL_meanAttempts_10 rfl hl (by decide) (by simp [List.filter, mz_cat]) (fun ls hl => ?_)
    refine lv_iconst (v := (nI 1)) S.1 S.2.1 dL_meanAttempts_11 (by decide) ?_
    exact mz_iret S hr hlk hM hS rfl (Nat.le_of_ble_eq_true rfl) (Nat.le_of_ble_eq_true rfl) dL_meanAttempts_12 ⟨_, rfl, h⟩
  · obtain ⟨u4, rfl, e9, h⟩ := hp
    rw [e9] at hM
    refine W.cs (cells' := 1) (slots' := 6) rfl rfl ?_
    obtain ⟨a5, e6, h⟩ := h
    refine mz_o2 e6 ?_
    obtain ⟨k7, h⟩ := h
    obtain ⟨b8, h⟩ := h
    refine mz_dast S hG hM hS dL_meanAttempts_6 k7 b8 (fun H locs hM hS hz9 => ?_)
    refine lv_goto (tgt := 13) S.1 S.2.1 dL_meanAttempts_7 (by decide) ?_
    refine lv_iconst (v := (nI 0)) S.1 S.2.1 dL_meanAttempts_13 (by decide) ?_
    exact mz_iret S hr hlk hM hS rfl (Nat.le_of_ble_eq_true rfl) (Nat.le_of_ble_eq_true rfl) dL_meanAttempts_14 ⟨_, rfl, h⟩
set_option maxRecDepth 100000 in
set_option maxHeartbeats 4000000 in
theorem c_L_meanAttemptsBits {l : Launch} {G : mgT} {μ : mmT} {r0 : Option Nat} {r1 : Option Nat} {Q : Int32 → mmT → Prop} (hl0 : l.stackTraces = false) (h : w_L_meanAttemptsBits G μ r0 r1 Q) : MH G l yL_meanAttemptsBits cL_meanAttemptsBits 3 (some .int) [(0, 7, 10, 115)] { frames := 7, cells := 1, slots := 6, locals := 120 } [va_rf r0, va_rf r1] μ (pI Q) := by
  refine mz_MH (by decide +kernel) (by simp [lg_sl, mz_cat, mz_cr, mz_ci, mz_cl, mz_cf, mz_cd, mz_cn]) (fun p e s m args below meth c S hG hr hlk hnm htab => ?_)
  intro H locs ls hM hS hl
  have hl : lv_has ls 3 [(0, va_rf r0), (1, va_rf r1)] := by simpa [lv_args, mz_cat, mz_cr, mz_ci, mz_cl, mz_cf, mz_cd, mz_cn] using hl
  unfold w_L_meanAttemptsBits at h
  refine mz_aload_n (x := r1) S.1 S.2.1 dL_meanAttemptsBits_0 rfl (lv_at hl 1 rfl) ?_
  refine lv_iconst (v := (nI 0)) S.1 S.2.1 dL_meanAttemptsBits_1 (by decide) ?_
  refine mz_aload_n (x := r0) S.1 S.2.1 dL_meanAttemptsBits_2 rfl (lv_at hl 0 rfl) ?_
  obtain ⟨a1, e2, h⟩ := h
  refine mz_o0 e2 ?_
  obtain ⟨k3, h⟩ := h
  refine mz_VX S hG hM hS cf_9 k3 (As := []) (rest := [.int (nI 0), va_rf r1]) (c_X10_meanAttemptsBits hl0 h) yf_X10_meanAttemptsBits tw_1303 tw_1304 tw_1305 ⟨Nat.le_of_ble_eq_true rfl, Nat.le_of_ble_eq_true rfl⟩ ⟨(Nat.le_of_ble_eq_true rfl), (Nat.le_of_ble_eq_true rfl)⟩ rfl hl.1 rfl (by simp [mz_cat, mz_cr, mz_ci, mz_cl, mz_cf, mz_cd, mz_cn]) dL_meanAttemptsBits_3 (fun E ce q9 μ9 H locs hp hM hS hc9 hv9 hcl9 => ?_) (fun v9 μ9 H locs hp hM hS => ?_)
  · obtain ⟨e9, h⟩ := hp
    rw [e9] at hM
    obtain ⟨rfl, h⟩ := h
    refine vx_catch S.2.2.2.1 (name := "java/lang/ArithmeticException") [] ⟨0, 7, 10, 115⟩ [] (by rw [htab]; rfl) (fun z hz => absurd hz List.not_mem_nil) (by decide) (by decide) (S.2.2.2.2 _ tw_1271) (hG.cast (i := 1283) (by decide +kernel)) hc9 hv9 hcl9 ?_
    refine W.cs (cells' := 1) (slots' := 6) rfl rfl ?_
    refine lv_astore_n (i := 2) (lv' := [(2, .ref q9), (0, va_rf r0), (1, va_rf r1)]) S.1 S.2.1 dL_meanAttemptsBits_10 rfl hl (by decide) (by simp [List.filter, mz_cat]) (fun ls hl => ?_)
    refine lv_iconst (v := (nI 1)) S.1 S.2.1 dL_meanAttemptsBits_11 (by decide) ?_
    exact mz_iret S hr hlk hM hS rfl (Nat.le_of_ble_eq_true rfl) (Nat.le_of_ble_eq_true rfl) dL_meanAttemptsBits_12 ⟨_, rfl, h⟩
  · obtain ⟨u4, rfl, e9, h⟩ := hp
    rw [e9] at hM
    refine W.cs (cells' := 1) (slots' := 6) rfl rfl ?_
    obtain ⟨a5, e6, h⟩ := h
    refine mz_o2 e6 ?_
    obtain ⟨k7, h⟩ := h
    obtain ⟨b8, h⟩ := h
    refine mz_last S hG hM hS dL_meanAttemptsBits_6 k7 b8 (fun H locs hM hS hz9 => ?_)
    refine lv_goto (tgt := 13) S.1 S.2.1 dL_meanAttemptsBits_7 (by decide) ?_
    refine lv_iconst (v := (nI 0)) S.1 S.2.1 dL_meanAttemptsBits_13 (by decide) ?_
    exact mz_iret S hr hlk hM hS rfl (Nat.le_of_ble_eq_true rfl) (Nat.le_of_ble_eq_true rfl) dL_meanAttemptsBits_14 ⟨_, rfl, h⟩
set_option maxRecDepth 100000 in
set_option maxHeartbeats 4000000 in
theorem c_L_deliveryRate {l : Launch} {G : mgT} {μ : mmT} {r0 : Option Nat} {r1 : Option Nat} {Q : Int32 → mmT → Prop} (hl0 : l.stackTraces = false) (h : w_L_deliveryRate G μ r0 r1 Q) : MH G l yL_deliveryRate cL_deliveryRate 3 (some .int) [(0, 8, 11, 115)] { frames := 7, cells := 1, slots := 6, locals := 120 } [va_rf r0, va_rf r1] μ (pI Q) := by
  refine mz_MH (by decide +kernel) (by simp [lg_sl, mz_cat, mz_cr, mz_ci, mz_cl, mz_cf, mz_cd, mz_cn]) (fun p e s m args below meth c S hG hr hlk hnm htab => ?_)
  intro H locs ls hM hS hl
  have hl : lv_has ls 3 [(0, va_rf r0), (1, va_rf r1)] := by simpa [lv_args, mz_cat, mz_cr, mz_ci, mz_cl, mz_cf, mz_cd, mz_cn] using hl
  unfold w_L_deliveryRate at h
  refine mz_aload_n (x := r1) S.1 S.2.1 dL_deliveryRate_0 rfl (lv_at hl 1 rfl) ?_
  refine lv_iconst (v := (nI 0)) S.1 S.2.1 dL_deliveryRate_1 (by decide) ?_
  refine mz_aload_n (x := r0) S.1 S.2.1 dL_deliveryRate_2 rfl (lv_at hl 0 rfl) ?_
  obtain ⟨a1, e2, h⟩ := h
  refine mz_o0 e2 ?_
  obtain ⟨k3, h⟩ := h
  refine mz_VX S hG hM hS cf_9 k3 (As := []) (rest := [.int (nI 0), va_rf r1]) (c_X10_deliveryRate hl0 h) yf_X10_deliveryRate tw_1314 tw_1315 tw_1316 ⟨Nat.le_of_ble_eq_true rfl, Nat.le_of_ble_eq_true rfl⟩ ⟨(Nat.le_of_ble_eq_true rfl), (Nat.le_of_ble_eq_true rfl)⟩ rfl hl.1 rfl (by simp [mz_cat, mz_cr, mz_ci, mz_cl, mz_cf, mz_cd, mz_cn]) dL_deliveryRate_3 (fun E ce q9 μ9 H locs hp hM hS hc9 hv9 hcl9 => ?_) (fun v9 μ9 H locs hp hM hS => ?_)
  · obtain ⟨e9, h⟩ := hp
    rw [e9] at hM
    obtain ⟨rfl, h⟩ := h
    refine vx_catch S.2.2.2.1 (name := "java/lang/ArithmeticException") [] ⟨0, 8, 11, 115⟩ [] (by rw [htab]; rfl) (fun z hz => absurd hz List.not_mem_nil) (by decide) (by decide) (S.2.2.2.2 _ tw_1271) (hG.cast (i := 1283) (by decide +kernel)) hc9 hv9 hcl9 ?_
    refine W.cs (cells' := 1) (slots' := 6) rfl rfl ?_
    refine lv_astore_n (i := 2) (lv' := [(2, .ref q9), (0, va_rf r0), (1, va_rf r1)]) S.1 S.2.1 dL_deliveryRate_11 rfl hl (by decide) (by simp [List.filter, mz_cat]) (fun ls hl => ?_)
    refine lv_iconst (v := (nI 1)) S.1 S.2.1 dL_deliveryRate_12 (by decide) ?_
    exact mz_iret S hr hlk hM hS rfl (Nat.le_of_ble_eq_true rfl) (Nat.le_of_ble_eq_true rfl) dL_deliveryRate_13 ⟨_, rfl, h⟩
  · obtain ⟨u4, rfl, e9, h⟩ := hp
    rw [e9] at hM
    refine W.cs (cells' := 1) (slots' := 6) rfl rfl ?_
    obtain ⟨g5, h⟩ := h
    refine lv_f2d S.1 S.2.1 dL_deliveryRate_6 g5 ?_
    obtain ⟨a6, e7, h⟩ := h
    refine mz_o2 e7 ?_
    obtain ⟨k8, h⟩ := h
    obtain ⟨b9, h⟩ := h
    refine mz_dast S hG hM hS dL_deliveryRate_7 k8 b9 (fun H locs hM hS hz9 => ?_)
    refine lv_goto (tgt := 14) S.1 S.2.1 dL_deliveryRate_8 (by decide) ?_
    refine lv_iconst (v := (nI 0)) S.1 S.2.1 dL_deliveryRate_14 (by decide) ?_
    exact mz_iret S hr hlk hM hS rfl (Nat.le_of_ble_eq_true rfl) (Nat.le_of_ble_eq_true rfl) dL_deliveryRate_15 ⟨_, rfl, h⟩
set_option maxRecDepth 100000 in
set_option maxHeartbeats 4000000 in
theorem c_L_deliveryRateBits {l : Launch} {G : mgT} {μ : mmT} {r0 : Option Nat} {r1 : Option Nat} {Q : Int32 → mmT → Prop} (hl0 : l.stackTraces = false) (h : w_L_deliveryRateBits G μ r0 r1 Q) : MH G l yL_deliveryRateBits cL_deliveryRateBits 3 (some .int) [(0, 8, 11, 115)] { frames := 7, cells := 1, slots := 6, locals := 120 } [va_rf r0, va_rf r1] μ (pI Q) := by
  refine mz_MH (by decide +kernel) (by simp [lg_sl, mz_cat, mz_cr, mz_ci, mz_cl, mz_cf, mz_cd, mz_cn]) (fun p e s m args below meth c S hG hr hlk hnm htab => ?_)
  intro H locs ls hM hS hl
  have hl : lv_has ls 3 [(0, va_rf r0), (1, va_rf r1)] := by simpa [lv_args, mz_cat, mz_cr, mz_ci, mz_cl, mz_cf, mz_cd, mz_cn] using hl
  unfold w_L_deliveryRateBits at h
  refine mz_aload_n (x := r1) S.1 S.2.1 dL_deliveryRateBits_0 rfl (lv_at hl 1 rfl) ?_
  refine lv_iconst (v := (nI 0)) S.1 S.2.1 dL_deliveryRateBits_1 (by decide) ?_
  refine mz_aload_n (x := r0) S.1 S.2.1 dL_deliveryRateBits_2 rfl (lv_at hl 0 rfl) ?_
  obtain ⟨a1, e2, h⟩ := h
  refine mz_o0 e2 ?_
  obtain ⟨k3, h⟩ := h
  refine mz_VX S hG hM hS cf_9 k3 (As := []) (rest := [.int (nI 0), va_rf r1]) (c_X10_deliveryRateBits hl0 h) yf_X10_deliveryRateBits tw_1326 tw_1327 tw_1328 ⟨Nat.le_of_ble_eq_true rfl, Nat.le_of_ble_eq_true rfl⟩ ⟨(Nat.le_of_ble_eq_true rfl), (Nat.le_of_ble_eq_true rfl)⟩ rfl hl.1 rfl (by simp [mz_cat, mz_cr, mz_ci, mz_cl, mz_cf, mz_cd, mz_cn]) dL_deliveryRateBits_3 (fun E ce q9 μ9 H locs hp hM hS hc9 hv9 hcl9 => ?_) (fun v9 μ9 H locs hp hM hS => ?_)
  · obtain ⟨e9, h⟩ := hp
    rw [e9] at hM
    obtain ⟨rfl, h⟩ := h
    refine vx_catch S.2.2.2.1 (name := "java/lang/ArithmeticException") [] ⟨0, 8, 11, 115⟩ [] (by rw [htab]; rfl) (fun z hz => absurd hz List.not_mem_nil) (by decide) (by decide) (S.2.2.2.2 _ tw_1271) (hG.cast (i := 1283) (by decide +kernel)) hc9 hv9 hcl9 ?_
    refine W.cs (cells' := 1) (slots' := 6) rfl rfl ?_
    refine lv_astore_n (i := 2) (lv' := [(2, .ref q9), (0, va_rf r0), (1, va_rf r1)]) S.1 S.2.1 dL_deliveryRateBits_11 rfl hl (by decide) (by simp [List.filter, mz_cat]) (fun ls hl => ?_)
    refine lv_iconst (v := (nI 1)) S.1 S.2.1 dL_deliveryRateBits_12 (by decide) ?_
    exact mz_iret S hr hlk hM hS rfl (Nat.le_of_ble_eq_true rfl) (Nat.le_of_ble_eq_true rfl) dL_deliveryRateBits_13 ⟨_, rfl, h⟩
  · obtain ⟨u4, rfl, e9, h⟩ := hp
    rw [e9] at hM
    refine W.cs (cells' := 1) (slots' := 6) rfl rfl ?_
    refine lv_i2l S.1 S.2.1 dL_deliveryRateBits_6 rfl ?_
    obtain ⟨a5, e6, h⟩ := h
    refine mz_o2 e6 ?_
    obtain ⟨k7, h⟩ := h
    obtain ⟨b8, h⟩ := h
    refine mz_last S hG hM hS dL_deliveryRateBits_7 k7 b8 (fun H locs hM hS hz9 => ?_)
    refine lv_goto (tgt := 14) S.1 S.2.1 dL_deliveryRateBits_8 (by decide) ?_
    refine lv_iconst (v := (nI 0)) S.1 S.2.1 dL_deliveryRateBits_14 (by decide) ?_
    exact mz_iret S hr hlk hM hS rfl (Nat.le_of_ble_eq_true rfl) (Nat.le_of_ble_eq_true rfl) dL_deliveryRateBits_15 ⟨_, rfl, h⟩
set_option maxRecDepth 100000 in
set_option maxHeartbeats 4000000 in
theorem c_L_renderMessage {l : Launch} {G : mgT} {μ : mmT} {r0 : Option Nat} {x1 : Int32} {r2 : Option Nat} {Q : Int32 → mmT → Prop} (hl0 : l.stackTraces = false) (h : w_L_renderMessage G μ r0 x1 r2 Q) : MH G l yL_renderMessage cL_renderMessage 4 (some .int) [(0, 9, 12, 30)] { frames := 8, cells := 1, slots := 6, locals := 144 } [va_rf r0, .int x1, va_rf r2] μ (pI Q) := by
  refine mz_MH (by decide +kernel) (by simp [lg_sl, mz_cat, mz_cr, mz_ci, mz_cl, mz_cf, mz_cd, mz_cn]) (fun p e s m args below meth c S hG hr hlk hnm htab => ?_)
  intro H locs ls hM hS hl
  have hl : lv_has ls 4 [(0, va_rf r0), (1, .int x1), (2, va_rf r2)] := by simpa [lv_args, mz_cat, mz_cr, mz_ci, mz_cl, mz_cf, mz_cd, mz_cn] using hl
  unfold w_L_renderMessage at h
  refine mz_aload_n (x := r2) S.1 S.2.1 dL_renderMessage_0 rfl (lv_at hl 2 rfl) ?_
  refine lv_iconst (v := (nI 0)) S.1 S.2.1 dL_renderMessage_1 (by decide) ?_
  refine mz_aload_n (x := r0) S.1 S.2.1 dL_renderMessage_2 rfl (lv_at hl 0 rfl) ?_
  refine lv_iload_n S.1 S.2.1 dL_renderMessage_3 rfl (lv_at hl 1 rfl) ?_
  obtain ⟨a1, e2, h⟩ := h
  refine mz_o1 e2 ?_
  obtain ⟨k3, h⟩ := h
  refine mz_VX S hG hM hS cf_9 k3 (As := [.int x1]) (rest := [.int (nI 0), va_rf r2]) (c_X10_renderMessage hl0 h) yf_X10_renderMessage tw_1333 tw_1334 tw_1335 ⟨Nat.le_of_ble_eq_true rfl, Nat.le_of_ble_eq_true rfl⟩ ⟨(Nat.le_of_ble_eq_true rfl), (Nat.le_of_ble_eq_true rfl)⟩ rfl hl.1 rfl (by simp [mz_cat, mz_cr, mz_ci, mz_cl, mz_cf, mz_cd, mz_cn]) dL_renderMessage_4 (fun E ce q9 μ9 H locs hp hM hS hc9 hv9 hcl9 => ?_) (fun v9 μ5 H locs hp hM hS => ?_)
  · have h := hp
    obtain ⟨rfl, h⟩ := h
    refine vx_catch S.2.2.2.1 (name := "java/util/NoSuchElementException") [] ⟨0, 9, 12, 30⟩ [] (by rw [htab]; rfl) (fun z hz => absurd hz List.not_mem_nil) (by decide) (by decide) (S.2.2.2.2 _ tw_964) (hG.cast (i := 909) (by decide +kernel)) hc9 hv9 hcl9 ?_
    refine W.cs (cells' := 1) (slots' := 6) rfl rfl ?_
    refine lv_astore_n (i := 3) (lv' := [(3, .ref q9), (0, va_rf r0), (1, .int x1), (2, va_rf r2)]) S.1 S.2.1 dL_renderMessage_12 rfl hl (by decide) (by simp [List.filter, mz_cat]) (fun ls hl => ?_)
    refine lv_iconst (v := (nI 1)) S.1 S.2.1 dL_renderMessage_13 (by decide) ?_
    exact mz_iret S hr hlk hM hS rfl (Nat.le_of_ble_eq_true rfl) (Nat.le_of_ble_eq_true rfl) dL_renderMessage_14 ⟨_, rfl, h⟩
  · obtain ⟨u4, rfl, h⟩ := hp
    refine W.cs (cells' := 1) (slots' := 6) rfl rfl ?_
    refine lv_i2l S.1 S.2.1 dL_renderMessage_7 rfl ?_
    obtain ⟨a6, e7, h⟩ := h
    refine mz_o2 e7 ?_
    obtain ⟨k8, h⟩ := h
    obtain ⟨b9, h⟩ := h
    refine mz_last S hG hM hS dL_renderMessage_8 k8 b9 (fun H locs hM hS hz9 => ?_)
    refine lv_goto (tgt := 15) S.1 S.2.1 dL_renderMessage_9 (by decide) ?_
    refine lv_iconst (v := (nI 0)) S.1 S.2.1 dL_renderMessage_15 (by decide) ?_
    exact mz_iret S hr hlk hM hS rfl (Nat.le_of_ble_eq_true rfl) (Nat.le_of_ble_eq_true rfl) dL_renderMessage_16 ⟨_, rfl, h⟩
set_option maxRecDepth 100000 in
set_option maxHeartbeats 4000000 in
theorem c_L_outputAt {l : Launch} {G : mgT} {μ : mmT} {r0 : Option Nat} {x1 : Int32} {r2 : Option Nat} {Q : Int32 → mmT → Prop} (hl0 : l.stackTraces = false) (h : w_L_outputAt G μ r0 x1 r2 Q) : MH G l yL_outputAt cL_outputAt 4 (some .int) [(0, 9, 12, 24)] { frames := 7, cells := 1, slots := 6, locals := 121 } [va_rf r0, .int x1, va_rf r2] μ (pI Q) := by
  refine mz_MH (by decide +kernel) (by simp [lg_sl, mz_cat, mz_cr, mz_ci, mz_cl, mz_cf, mz_cd, mz_cn]) (fun p e s m args below meth c S hG hr hlk hnm htab => ?_)
  intro H locs ls hM hS hl
  have hl : lv_has ls 4 [(0, va_rf r0), (1, .int x1), (2, va_rf r2)] := by simpa [lv_args, mz_cat, mz_cr, mz_ci, mz_cl, mz_cf, mz_cd, mz_cn] using hl
  unfold w_L_outputAt at h
  refine mz_aload_n (x := r2) S.1 S.2.1 dL_outputAt_0 rfl (lv_at hl 2 rfl) ?_
  refine lv_iconst (v := (nI 0)) S.1 S.2.1 dL_outputAt_1 (by decide) ?_
  refine mz_aload_n (x := r0) S.1 S.2.1 dL_outputAt_2 rfl (lv_at hl 0 rfl) ?_
  refine lv_iload_n S.1 S.2.1 dL_outputAt_3 rfl (lv_at hl 1 rfl) ?_
  obtain ⟨a1, e2, h⟩ := h
  refine mz_o1 e2 ?_
  obtain ⟨k3, h⟩ := h
  refine mz_VX S hG hM hS cf_9 k3 (As := [.int x1]) (rest := [.int (nI 0), va_rf r2]) (c_X10_outputAt hl0 h) yf_X10_outputAt tw_1340 tw_1341 tw_1342 ⟨Nat.le_of_ble_eq_true rfl, Nat.le_of_ble_eq_true rfl⟩ ⟨(Nat.le_of_ble_eq_true rfl), (Nat.le_of_ble_eq_true rfl)⟩ rfl hl.1 rfl (by simp [mz_cat, mz_cr, mz_ci, mz_cl, mz_cf, mz_cd, mz_cn]) dL_outputAt_4 (fun E ce q9 μ9 H locs hp hM hS hc9 hv9 hcl9 => ?_) (fun v9 μ9 H locs hp hM hS => ?_)
  · obtain ⟨e9, h⟩ := hp
    rw [e9] at hM
    obtain ⟨rfl, h⟩ := h
    refine vx_catch S.2.2.2.1 (name := "java/lang/IndexOutOfBoundsException") [] ⟨0, 9, 12, 24⟩ [] (by rw [htab]; rfl) (fun z hz => absurd hz List.not_mem_nil) (by decide) (by decide) (S.2.2.2.2 _ tw_942) (hG.cast (i := 896) (by decide +kernel)) hc9 hv9 hcl9 ?_
    refine W.cs (cells' := 1) (slots' := 6) rfl rfl ?_
    refine lv_astore_n (i := 3) (lv' := [(3, .ref q9), (0, va_rf r0), (1, .int x1), (2, va_rf r2)]) S.1 S.2.1 dL_outputAt_12 rfl hl (by decide) (by simp [List.filter, mz_cat]) (fun ls hl => ?_)
    refine lv_iconst (v := (nI 1)) S.1 S.2.1 dL_outputAt_13 (by decide) ?_
    exact mz_iret S hr hlk hM hS rfl (Nat.le_of_ble_eq_true rfl) (Nat.le_of_ble_eq_true rfl) dL_outputAt_14 ⟨_, rfl, h⟩
  · obtain ⟨u4, rfl, e9, h⟩ := hp
    rw [e9] at hM
    refine W.cs (cells' := 1) (slots' := 6) rfl rfl ?_
    refine lv_i2l S.1 S.2.1 dL_outputAt_7 rfl ?_
    obtain ⟨a5, e6, h⟩ := h
    refine mz_o2 e6 ?_
    obtain ⟨k7, h⟩ := h
    obtain ⟨b8, h⟩ := h
    refine mz_last S hG hM hS dL_outputAt_8 k7 b8 (fun H locs hM hS hz9 => ?_)
    refine lv_goto (tgt := 15) S.1 S.2.1 dL_outputAt_9 (by decide) ?_
    refine lv_iconst (v := (nI 0)) S.1 S.2.1 dL_outputAt_15 (by decide) ?_
    exact mz_iret S hr hlk hM hS rfl (Nat.le_of_ble_eq_true rfl) (Nat.le_of_ble_eq_true rfl) dL_outputAt_16 ⟨_, rfl, h⟩
set_option maxRecDepth 100000 in
set_option maxHeartbeats 4000000 in
theorem c_L_type {l : Launch} {G : mgT} {μ : mmT} {r0 : Option Nat} {x1 : Int32} {r2 : Option Nat} {Q : Int32 → mmT → Prop} (hl0 : l.stackTraces = false) (h : w_L_type G μ r0 x1 r2 Q) : MH G l yL_type cL_type 4 (some .int) [(0, 9, 12, 13), (0, 9, 15, 15)] { frames := 7, cells := 1, slots := 6, locals := 121 } [va_rf r0, .int x1, va_rf r2] μ (pI Q) := by
  refine mz_MH (by decide +kernel) (by simp [lg_sl, mz_cat, mz_cr, mz_ci, mz_cl, mz_cf, mz_cd, mz_cn]) (fun p e s m args below meth c S hG hr hlk hnm htab => ?_)
  intro H locs ls hM hS hl
  have hl : lv_has ls 4 [(0, va_rf r0), (1, .int x1), (2, va_rf r2)] := by simpa [lv_args, mz_cat, mz_cr, mz_ci, mz_cl, mz_cf, mz_cd, mz_cn] using hl
  unfold w_L_type at h
  refine mz_aload_n (x := r2) S.1 S.2.1 dL_type_0 rfl (lv_at hl 2 rfl) ?_
  refine lv_iconst (v := (nI 0)) S.1 S.2.1 dL_type_1 (by decide) ?_
  refine mz_aload_n (x := r0) S.1 S.2.1 dL_type_2 rfl (lv_at hl 0 rfl) ?_
  refine lv_iload_n S.1 S.2.1 dL_type_3 rfl (lv_at hl 1 rfl) ?_
  obtain ⟨a1, e2, h⟩ := h
  refine mz_o1 e2 ?_
  obtain ⟨k3, h⟩ := h
  refine mz_VX S hG hM hS cf_9 k3 (As := [.int x1]) (rest := [.int (nI 0), va_rf r2]) (c_X10_type hl0 h) yf_X10_type tw_1358 tw_1359 tw_1360 ⟨Nat.le_of_ble_eq_true rfl, Nat.le_of_ble_eq_true rfl⟩ ⟨(Nat.le_of_ble_eq_true rfl), (Nat.le_of_ble_eq_true rfl)⟩ rfl hl.1 rfl (by simp [mz_cat, mz_cr, mz_ci, mz_cl, mz_cf, mz_cd, mz_cn]) dL_type_4 (fun E ce q9 μ9 H locs hp hM hS hc9 hv9 hcl9 => ?_) (fun v9 μ5 H locs hp hM hS => ?_)
  · have h := hp
    rcases h with ⟨rfl, h⟩ | h
    · refine vx_catch S.2.2.2.1 (name := "java/lang/IllegalArgumentException") [] ⟨0, 9, 12, 13⟩ [⟨0, 9, 15, 15⟩] (by rw [htab]; rfl) (fun z hz => absurd hz List.not_mem_nil) (by decide) (by decide) (S.2.2.2.2 _ tw_857) (hG.cast (i := 657) (by decide +kernel)) hc9 hv9 hcl9 ?_
      refine W.cs (cells' := 1) (slots' := 6) rfl rfl ?_
      refine lv_astore_n (i := 3) (lv' := [(3, .ref q9), (0, va_rf r0), (1, .int x1), (2, va_rf r2)]) S.1 S.2.1 dL_type_12 rfl hl (by decide) (by simp [List.filter, mz_cat]) (fun ls hl => ?_)
      refine lv_iconst (v := (nI 1)) S.1 S.2.1 dL_type_13 (by decide) ?_
      exact mz_iret S hr hlk hM hS rfl (Nat.le_of_ble_eq_true rfl) (Nat.le_of_ble_eq_true rfl) dL_type_14 ⟨_, rfl, h⟩
    obtain ⟨rfl, h⟩ := h
    refine vx_catch S.2.2.2.1 (name := "java/lang/IllegalStateException") [⟨0, 9, 12, 13⟩] ⟨0, 9, 15, 15⟩ [] (by rw [htab]; rfl) (fun z hz => (List.mem_cons.mp hz).elim (fun e9 => by subst e9; exact Or.inr ⟨by decide, "java/lang/IllegalArgumentException", S.2.2.2.2 _ tw_857, hG.nc (by decide)⟩) (fun hz => absurd hz List.not_mem_nil)) (by decide) (by decide) (S.2.2.2.2 _ tw_858) (hG.cast (i := 880) (by decide +kernel)) hc9 hv9 hcl9 ?_
    refine W.cs (cells' := 1) (slots' := 6) rfl rfl ?_
    refine lv_astore_n (i := 3) (lv' := [(3, .ref q9), (0, va_rf r0), (1, .int x1), (2, va_rf r2)]) S.1 S.2.1 dL_type_15 rfl hl (by decide) (by simp [List.filter, mz_cat]) (fun ls hl => ?_)
    refine lv_iconst (v := (nI 2)) S.1 S.2.1 dL_type_16 (by decide) ?_
    exact mz_iret S hr hlk hM hS rfl (Nat.le_of_ble_eq_true rfl) (Nat.le_of_ble_eq_true rfl) dL_type_17 ⟨_, rfl, h⟩
  · obtain ⟨u4, rfl, h⟩ := hp
    refine W.cs (cells' := 1) (slots' := 6) rfl rfl ?_
    refine lv_i2l S.1 S.2.1 dL_type_7 rfl ?_
    obtain ⟨a6, e7, h⟩ := h
    refine mz_o2 e7 ?_
    obtain ⟨k8, h⟩ := h
    obtain ⟨b9, h⟩ := h
    refine mz_last S hG hM hS dL_type_8 k8 b9 (fun H locs hM hS hz9 => ?_)
    refine lv_goto (tgt := 18) S.1 S.2.1 dL_type_9 (by decide) ?_
    refine lv_iconst (v := (nI 0)) S.1 S.2.1 dL_type_18 (by decide) ?_
    exact mz_iret S hr hlk hM hS rfl (Nat.le_of_ble_eq_true rfl) (Nat.le_of_ble_eq_true rfl) dL_type_19 ⟨_, rfl, h⟩
set_option maxRecDepth 100000 in
set_option maxHeartbeats 4000000 in
theorem c_L_runScript {l : Launch} {G : mgT} {μ : mmT} {r0 : Option Nat} {r1 : Option Nat} {Q : Int32 → mmT → Prop} (hl0 : l.stackTraces = false) (h : w_L_runScript G μ r0 r1 Q) : MH G l yL_runScript cL_runScript 3 (some .int) [(0, 8, 11, 13), (0, 8, 14, 15)] { frames := 8, cells := 1, slots := 6, locals := 215 } [va_rf r0, va_rf r1] μ (pI Q) := by
  refine mz_MH (by decide +kernel) (by simp [lg_sl, mz_cat, mz_cr, mz_ci, mz_cl, mz_cf, mz_cd, mz_cn]) (fun p e s m args below meth c S hG hr hlk hnm htab => ?_)
  intro H locs ls hM hS hl
  have hl : lv_has ls 3 [(0, va_rf r0), (1, va_rf r1)] := by simpa [lv_args, mz_cat, mz_cr, mz_ci, mz_cl, mz_cf, mz_cd, mz_cn] using hl
  unfold w_L_runScript at h
  refine mz_aload_n (x := r1) S.1 S.2.1 dL_runScript_0 rfl (lv_at hl 1 rfl) ?_
  refine lv_iconst (v := (nI 0)) S.1 S.2.1 dL_runScript_1 (by decide) ?_
  refine mz_aload_n (x := r0) S.1 S.2.1 dL_runScript_2 rfl (lv_at hl 0 rfl) ?_
  obtain ⟨a1, e2, h⟩ := h
  refine mz_o0 e2 ?_
  obtain ⟨k3, h⟩ := h
  refine mz_VX S hG hM hS cf_9 k3 (As := []) (rest := [.int (nI 0), va_rf r1]) (c_X10_runScript hl0 h) yf_X10_runScript tw_1371 tw_1372 tw_1373 ⟨Nat.le_of_ble_eq_true rfl, Nat.le_of_ble_eq_true rfl⟩ ⟨(Nat.le_of_ble_eq_true rfl), (Nat.le_of_ble_eq_true rfl)⟩ rfl hl.1 rfl (by simp [mz_cat, mz_cr, mz_ci, mz_cl, mz_cf, mz_cd, mz_cn]) dL_runScript_3 (fun E ce q9 μ9 H locs hp hM hS hc9 hv9 hcl9 => ?_) (fun v9 μ5 H locs hp hM hS => ?_)
  · have h := hp
    rcases h with ⟨rfl, h⟩ | h
    · refine vx_catch S.2.2.2.1 (name := "java/lang/IllegalArgumentException") [] ⟨0, 8, 11, 13⟩ [⟨0, 8, 14, 15⟩] (by rw [htab]; rfl) (fun z hz => absurd hz List.not_mem_nil) (by decide) (by decide) (S.2.2.2.2 _ tw_857) (hG.cast (i := 657) (by decide +kernel)) hc9 hv9 hcl9 ?_
      refine W.cs (cells' := 1) (slots' := 6) rfl rfl ?_
      refine lv_astore_n (i := 2) (lv' := [(2, .ref q9), (0, va_rf r0), (1, va_rf r1)]) S.1 S.2.1 dL_runScript_11 rfl hl (by decide) (by simp [List.filter, mz_cat]) (fun ls hl => ?_)
      refine lv_iconst (v := (nI 1)) S.1 S.2.1 dL_runScript_12 (by decide) ?_
      exact mz_iret S hr hlk hM hS rfl (Nat.le_of_ble_eq_true rfl) (Nat.le_of_ble_eq_true rfl) dL_runScript_13 ⟨_, rfl, h⟩
    obtain ⟨rfl, h⟩ := h
    refine vx_catch S.2.2.2.1 (name := "java/lang/IllegalStateException") [⟨0, 8, 11, 13⟩] ⟨0, 8, 14, 15⟩ [] (by rw [htab]; rfl) (fun z hz => (List.mem_cons.mp hz).elim (fun e9 => by subst e9; exact Or.inr ⟨by decide, "java/lang/IllegalArgumentException", S.2.2.2.2 _ tw_857, hG.nc (by decide)⟩) (fun hz => absurd hz List.not_mem_nil)) (by decide) (by decide) (S.2.2.2.2 _ tw_858) (hG.cast (i := 880) (by decide +kernel)) hc9 hv9 hcl9 ?_
    refine W.cs (cells' := 1) (slots' := 6) rfl rfl ?_
    refine lv_astore_n (i := 2) (lv' := [(2, .ref q9), (0, va_rf r0), (1, va_rf r1)]) S.1 S.2.1 dL_runScript_14 rfl hl (by decide) (by simp [List.filter, mz_cat]) (fun ls hl => ?_)
    refine lv_iconst (v := (nI 2)) S.1 S.2.1 dL_runScript_15 (by decide) ?_
    exact mz_iret S hr hlk hM hS rfl (Nat.le_of_ble_eq_true rfl) (Nat.le_of_ble_eq_true rfl) dL_runScript_16 ⟨_, rfl, h⟩
  · obtain ⟨u4, rfl, h⟩ := hp
    refine W.cs (cells' := 1) (slots' := 6) rfl rfl ?_
    refine lv_i2l S.1 S.2.1 dL_runScript_6 rfl ?_
    obtain ⟨a6, e7, h⟩ := h
    refine mz_o2 e7 ?_
    obtain ⟨k8, h⟩ := h
    obtain ⟨b9, h⟩ := h
    refine mz_last S hG hM hS dL_runScript_7 k8 b9 (fun H locs hM hS hz9 => ?_)
    refine lv_goto (tgt := 17) S.1 S.2.1 dL_runScript_8 (by decide) ?_
    refine lv_iconst (v := (nI 0)) S.1 S.2.1 dL_runScript_17 (by decide) ?_
    exact mz_iret S hr hlk hM hS rfl (Nat.le_of_ble_eq_true rfl) (Nat.le_of_ble_eq_true rfl) dL_runScript_18 ⟨_, rfl, h⟩
set_option maxRecDepth 100000 in
set_option maxHeartbeats 4000000 in
theorem c_L_errorPosition {l : Launch} {G : mgT} {μ : mmT} {r0 : Option Nat} {r1 : Option Nat} {Q : Int32 → mmT → Prop} (hl0 : l.stackTraces = false) (h : w_L_errorPosition G μ r0 r1 Q) : MH G l yL_errorPosition cL_errorPosition 3 (some .int) [(0, 8, 11, 30)] { frames := 7, cells := 1, slots := 6, locals := 120 } [va_rf r0, va_rf r1] μ (pI Q) := by
  refine mz_MH (by decide +kernel) (by simp [lg_sl, mz_cat, mz_cr, mz_ci, mz_cl, mz_cf, mz_cd, mz_cn]) (fun p e s m args below meth c S hG hr hlk hnm htab => ?_)
  intro H locs ls hM hS hl
  have hl : lv_has ls 3 [(0, va_rf r0), (1, va_rf r1)] := by simpa [lv_args, mz_cat, mz_cr, mz_ci, mz_cl, mz_cf, mz_cd, mz_cn] using hl
  unfold w_L_errorPosition at h
  refine mz_aload_n (x := r1) S.1 S.2.1 dL_errorPosition_0 rfl (lv_at hl 1 rfl) ?_
  refine lv_iconst (v := (nI 0)) S.1 S.2.1 dL_errorPosition_1 (by decide) ?_
  refine mz_aload_n (x := r0) S.1 S.2.1 dL_errorPosition_2 rfl (lv_at hl 0 rfl) ?_
  obtain ⟨a1, e2, h⟩ := h
  refine mz_o0 e2 ?_
  obtain ⟨k3, h⟩ := h
  refine mz_VX S hG hM hS cf_9 k3 (As := []) (rest := [.int (nI 0), va_rf r1]) (c_X10_errorPosition hl0 h) yf_X10_errorPosition tw_1443 tw_1444 tw_1445 ⟨Nat.le_of_ble_eq_true rfl, Nat.le_of_ble_eq_true rfl⟩ ⟨(Nat.le_of_ble_eq_true rfl), (Nat.le_of_ble_eq_true rfl)⟩ rfl hl.1 rfl (by simp [mz_cat, mz_cr, mz_ci, mz_cl, mz_cf, mz_cd, mz_cn]) dL_errorPosition_3 (fun E ce q9 μ9 H locs hp hM hS hc9 hv9 hcl9 => ?_) (fun v9 μ9 H locs hp hM hS => ?_)
  · obtain ⟨e9, h⟩ := hp
    rw [e9] at hM
    obtain ⟨rfl, h⟩ := h
    refine vx_catch S.2.2.2.1 (name := "java/util/NoSuchElementException") [] ⟨0, 8, 11, 30⟩ [] (by rw [htab]; rfl) (fun z hz => absurd hz List.not_mem_nil) (by decide) (by decide) (S.2.2.2.2 _ tw_964) (hG.cast (i := 909) (by decide +kernel)) hc9 hv9 hcl9 ?_
    refine W.cs (cells' := 1) (slots' := 6) rfl rfl ?_
    refine lv_astore_n (i := 2) (lv' := [(2, .ref q9), (0, va_rf r0), (1, va_rf r1)]) S.1 S.2.1 dL_errorPosition_11 rfl hl (by decide) (by simp [List.filter, mz_cat]) (fun ls hl => ?_)
    refine lv_iconst (v := (nI 1)) S.1 S.2.1 dL_errorPosition_12 (by decide) ?_
    exact mz_iret S hr hlk hM hS rfl (Nat.le_of_ble_eq_true rfl) (Nat.le_of_ble_eq_true rfl) dL_errorPosition_13 ⟨_, rfl, h⟩
  · obtain ⟨u4, rfl, e9, h⟩ := hp
    rw [e9] at hM
    refine W.cs (cells' := 1) (slots' := 6) rfl rfl ?_
    refine lv_i2l S.1 S.2.1 dL_errorPosition_6 rfl ?_
    obtain ⟨a5, e6, h⟩ := h
    refine mz_o2 e6 ?_
    obtain ⟨k7, h⟩ := h
    obtain ⟨b8, h⟩ := h
    refine mz_last S hG hM hS dL_errorPosition_7 k7 b8 (fun H locs hM hS hz9 => ?_)
    refine lv_goto (tgt := 14) S.1 S.2.1 dL_errorPosition_8 (by decide) ?_
    refine lv_iconst (v := (nI 0)) S.1 S.2.1 dL_errorPosition_14 (by decide) ?_
    exact mz_iret S hr hlk hM hS rfl (Nat.le_of_ble_eq_true rfl) (Nat.le_of_ble_eq_true rfl) dL_errorPosition_15 ⟨_, rfl, h⟩
set_option maxRecDepth 100000 in
set_option maxHeartbeats 4000000 in
theorem c_L_failedCommand {l : Launch} {G : mgT} {μ : mmT} {r0 : Option Nat} {r1 : Option Nat} {Q : Int32 → mmT → Prop} (hl0 : l.stackTraces = false) (h : w_L_failedCommand G μ r0 r1 Q) : MH G l yL_failedCommand cL_failedCommand 3 (some .int) [(0, 8, 11, 30)] { frames := 7, cells := 1, slots := 6, locals := 120 } [va_rf r0, va_rf r1] μ (pI Q) := by
  refine mz_MH (by decide +kernel) (by simp [lg_sl, mz_cat, mz_cr, mz_ci, mz_cl, mz_cf, mz_cd, mz_cn]) (fun p e s m args below meth c S hG hr hlk hnm htab => ?_)
  intro H locs ls hM hS hl
  have hl : lv_has ls 3 [(0, va_rf r0), (1, va_rf r1)] := by simpa [lv_args, mz_cat, mz_cr, mz_ci, mz_cl, mz_cf, mz_cd, mz_cn] using hl
  unfold w_L_failedCommand at h
  refine mz_aload_n (x := r1) S.1 S.2.1 dL_failedCommand_0 rfl (lv_at hl 1 rfl) ?_
  refine lv_iconst (v := (nI 0)) S.1 S.2.1 dL_failedCommand_1 (by decide) ?_
  refine mz_aload_n (x := r0) S.1 S.2.1 dL_failedCommand_2 rfl (lv_at hl 0 rfl) ?_
  obtain ⟨a1, e2, h⟩ := h
  refine mz_o0 e2 ?_
  obtain ⟨k3, h⟩ := h
  refine mz_VX S hG hM hS cf_9 k3 (As := []) (rest := [.int (nI 0), va_rf r1]) (c_X10_failedCommand hl0 h) yf_X10_failedCommand tw_1451 tw_1452 tw_1453 ⟨Nat.le_of_ble_eq_true rfl, Nat.le_of_ble_eq_true rfl⟩ ⟨(Nat.le_of_ble_eq_true rfl), (Nat.le_of_ble_eq_true rfl)⟩ rfl hl.1 rfl (by simp [mz_cat, mz_cr, mz_ci, mz_cl, mz_cf, mz_cd, mz_cn]) dL_failedCommand_3 (fun E ce q9 μ9 H locs hp hM hS hc9 hv9 hcl9 => ?_) (fun v9 μ9 H locs hp hM hS => ?_)
  · obtain ⟨e9, h⟩ := hp
    rw [e9] at hM
    obtain ⟨rfl, h⟩ := h
    refine vx_catch S.2.2.2.1 (name := "java/util/NoSuchElementException") [] ⟨0, 8, 11, 30⟩ [] (by rw [htab]; rfl) (fun z hz => absurd hz List.not_mem_nil) (by decide) (by decide) (S.2.2.2.2 _ tw_964) (hG.cast (i := 909) (by decide +kernel)) hc9 hv9 hcl9 ?_
    refine W.cs (cells' := 1) (slots' := 6) rfl rfl ?_
    refine lv_astore_n (i := 2) (lv' := [(2, .ref q9), (0, va_rf r0), (1, va_rf r1)]) S.1 S.2.1 dL_failedCommand_11 rfl hl (by decide) (by simp [List.filter, mz_cat]) (fun ls hl => ?_)
    refine lv_iconst (v := (nI 1)) S.1 S.2.1 dL_failedCommand_12 (by decide) ?_
    exact mz_iret S hr hlk hM hS rfl (Nat.le_of_ble_eq_true rfl) (Nat.le_of_ble_eq_true rfl) dL_failedCommand_13 ⟨_, rfl, h⟩
  · obtain ⟨u4, rfl, e9, h⟩ := hp
    rw [e9] at hM
    refine W.cs (cells' := 1) (slots' := 6) rfl rfl ?_
    refine lv_i2l S.1 S.2.1 dL_failedCommand_6 rfl ?_
    obtain ⟨a5, e6, h⟩ := h
    refine mz_o2 e6 ?_
    obtain ⟨k7, h⟩ := h
    obtain ⟨b8, h⟩ := h
    refine mz_last S hG hM hS dL_failedCommand_7 k7 b8 (fun H locs hM hS hz9 => ?_)
    refine lv_goto (tgt := 14) S.1 S.2.1 dL_failedCommand_8 (by decide) ?_
    refine lv_iconst (v := (nI 0)) S.1 S.2.1 dL_failedCommand_14 (by decide) ?_
    exact mz_iret S hr hlk hM hS rfl (Nat.le_of_ble_eq_true rfl) (Nat.le_of_ble_eq_true rfl) dL_failedCommand_15 ⟨_, rfl, h⟩
set_option maxRecDepth 100000 in
set_option maxHeartbeats 4000000 in
theorem c_L_undo {l : Launch} {G : mgT} {μ : mmT} {r0 : Option Nat} {r1 : Option Nat} {Q : Int32 → mmT → Prop} (hl0 : l.stackTraces = false) (h : w_L_undo G μ r0 r1 Q) : MH G l yL_undo cL_undo 3 (some .int) [(0, 8, 11, 30)] { frames := 7, cells := 1, slots := 6, locals := 144 } [va_rf r0, va_rf r1] μ (pI Q) := by
  refine mz_MH (by decide +kernel) (by simp [lg_sl, mz_cat, mz_cr, mz_ci, mz_cl, mz_cf, mz_cd, mz_cn]) (fun p e s m args below meth c S hG hr hlk hnm htab => ?_)
  intro H locs ls hM hS hl
  have hl : lv_has ls 3 [(0, va_rf r0), (1, va_rf r1)] := by simpa [lv_args, mz_cat, mz_cr, mz_ci, mz_cl, mz_cf, mz_cd, mz_cn] using hl
  unfold w_L_undo at h
  refine mz_aload_n (x := r1) S.1 S.2.1 dL_undo_0 rfl (lv_at hl 1 rfl) ?_
  refine lv_iconst (v := (nI 0)) S.1 S.2.1 dL_undo_1 (by decide) ?_
  refine mz_aload_n (x := r0) S.1 S.2.1 dL_undo_2 rfl (lv_at hl 0 rfl) ?_
  obtain ⟨a1, e2, h⟩ := h
  refine mz_o0 e2 ?_
  obtain ⟨k3, h⟩ := h
  refine mz_VX S hG hM hS cf_9 k3 (As := []) (rest := [.int (nI 0), va_rf r1]) (c_X10_undo hl0 h) yf_X10_undo tw_1459 tw_1460 tw_1461 ⟨Nat.le_of_ble_eq_true rfl, Nat.le_of_ble_eq_true rfl⟩ ⟨(Nat.le_of_ble_eq_true rfl), (Nat.le_of_ble_eq_true rfl)⟩ rfl hl.1 rfl (by simp [mz_cat, mz_cr, mz_ci, mz_cl, mz_cf, mz_cd, mz_cn]) dL_undo_3 (fun E ce q9 μ9 H locs hp hM hS hc9 hv9 hcl9 => ?_) (fun v9 μ5 H locs hp hM hS => ?_)
  · have h := hp
    obtain ⟨rfl, h⟩ := h
    refine vx_catch S.2.2.2.1 (name := "java/util/NoSuchElementException") [] ⟨0, 8, 11, 30⟩ [] (by rw [htab]; rfl) (fun z hz => absurd hz List.not_mem_nil) (by decide) (by decide) (S.2.2.2.2 _ tw_964) (hG.cast (i := 909) (by decide +kernel)) hc9 hv9 hcl9 ?_
    refine W.cs (cells' := 1) (slots' := 6) rfl rfl ?_
    refine lv_astore_n (i := 2) (lv' := [(2, .ref q9), (0, va_rf r0), (1, va_rf r1)]) S.1 S.2.1 dL_undo_11 rfl hl (by decide) (by simp [List.filter, mz_cat]) (fun ls hl => ?_)
    refine lv_iconst (v := (nI 1)) S.1 S.2.1 dL_undo_12 (by decide) ?_
    exact mz_iret S hr hlk hM hS rfl (Nat.le_of_ble_eq_true rfl) (Nat.le_of_ble_eq_true rfl) dL_undo_13 ⟨_, rfl, h⟩
  · obtain ⟨u4, rfl, h⟩ := hp
    refine W.cs (cells' := 1) (slots' := 6) rfl rfl ?_
    refine lv_i2l S.1 S.2.1 dL_undo_6 rfl ?_
    obtain ⟨a6, e7, h⟩ := h
    refine mz_o2 e7 ?_
    obtain ⟨k8, h⟩ := h
    obtain ⟨b9, h⟩ := h
    refine mz_last S hG hM hS dL_undo_7 k8 b9 (fun H locs hM hS hz9 => ?_)
    refine lv_goto (tgt := 14) S.1 S.2.1 dL_undo_8 (by decide) ?_
    refine lv_iconst (v := (nI 0)) S.1 S.2.1 dL_undo_14 (by decide) ?_
    exact mz_iret S hr hlk hM hS rfl (Nat.le_of_ble_eq_true rfl) (Nat.le_of_ble_eq_true rfl) dL_undo_15 ⟨_, rfl, h⟩
set_option maxRecDepth 100000 in
set_option maxHeartbeats 4000000 in
theorem c_L_restore {l : Launch} {G : mgT} {μ : mmT} {r0 : Option Nat} {r1 : Option Nat} {Q : Int32 → mmT → Prop} (hl0 : l.stackTraces = false) (h : w_L_restore G μ r0 r1 Q) : MH G l yL_restore cL_restore 3 (some .int) [(0, 8, 11, 15)] { frames := 7, cells := 1, slots := 6, locals := 123 } [va_rf r0, va_rf r1] μ (pI Q) := by
  refine mz_MH (by decide +kernel) (by simp [lg_sl, mz_cat, mz_cr, mz_ci, mz_cl, mz_cf, mz_cd, mz_cn]) (fun p e s m args below meth c S hG hr hlk hnm htab => ?_)
  intro H locs ls hM hS hl
  have hl : lv_has ls 3 [(0, va_rf r0), (1, va_rf r1)] := by simpa [lv_args, mz_cat, mz_cr, mz_ci, mz_cl, mz_cf, mz_cd, mz_cn] using hl
  unfold w_L_restore at h
  refine mz_aload_n (x := r1) S.1 S.2.1 dL_restore_0 rfl (lv_at hl 1 rfl) ?_
  refine lv_iconst (v := (nI 0)) S.1 S.2.1 dL_restore_1 (by decide) ?_
  refine mz_aload_n (x := r0) S.1 S.2.1 dL_restore_2 rfl (lv_at hl 0 rfl) ?_
  obtain ⟨a1, e2, h⟩ := h
  refine mz_o0 e2 ?_
  obtain ⟨k3, h⟩ := h
  refine mz_VX S hG hM hS cf_9 k3 (As := []) (rest := [.int (nI 0), va_rf r1]) (c_X10_restore hl0 h) yf_X10_restore tw_1471 tw_1472 tw_1473 ⟨Nat.le_of_ble_eq_true rfl, Nat.le_of_ble_eq_true rfl⟩ ⟨(Nat.le_of_ble_eq_true rfl), (Nat.le_of_ble_eq_true rfl)⟩ rfl hl.1 rfl (by simp [mz_cat, mz_cr, mz_ci, mz_cl, mz_cf, mz_cd, mz_cn]) dL_restore_3 (fun E ce q9 μ9 H locs hp hM hS hc9 hv9 hcl9 => ?_) (fun v9 μ5 H locs hp hM hS => ?_)
  · have h := hp
    obtain ⟨rfl, h⟩ := h
    refine vx_catch S.2.2.2.1 (name := "java/lang/IllegalStateException") [] ⟨0, 8, 11, 15⟩ [] (by rw [htab]; rfl) (fun z hz => absurd hz List.not_mem_nil) (by decide) (by decide) (S.2.2.2.2 _ tw_858) (hG.cast (i := 880) (by decide +kernel)) hc9 hv9 hcl9 ?_
    refine W.cs (cells' := 1) (slots' := 6) rfl rfl ?_
    refine lv_astore_n (i := 2) (lv' := [(2, .ref q9), (0, va_rf r0), (1, va_rf r1)]) S.1 S.2.1 dL_restore_11 rfl hl (by decide) (by simp [List.filter, mz_cat]) (fun ls hl => ?_)
    refine lv_iconst (v := (nI 1)) S.1 S.2.1 dL_restore_12 (by decide) ?_
    exact mz_iret S hr hlk hM hS rfl (Nat.le_of_ble_eq_true rfl) (Nat.le_of_ble_eq_true rfl) dL_restore_13 ⟨_, rfl, h⟩
  · obtain ⟨u4, rfl, h⟩ := hp
    refine W.cs (cells' := 1) (slots' := 6) rfl rfl ?_
    refine lv_i2l S.1 S.2.1 dL_restore_6 rfl ?_
    obtain ⟨a6, e7, h⟩ := h
    refine mz_o2 e7 ?_
    obtain ⟨k8, h⟩ := h
    obtain ⟨b9, h⟩ := h
    refine mz_last S hG hM hS dL_restore_7 k8 b9 (fun H locs hM hS hz9 => ?_)
    refine lv_goto (tgt := 14) S.1 S.2.1 dL_restore_8 (by decide) ?_
    refine lv_iconst (v := (nI 0)) S.1 S.2.1 dL_restore_14 (by decide) ?_
    exact mz_iret S hr hlk hM hS rfl (Nat.le_of_ble_eq_true rfl) (Nat.le_of_ble_eq_true rfl) dL_restore_15 ⟨_, rfl, h⟩
set_option maxRecDepth 100000 in
set_option maxHeartbeats 4000000 in
theorem cB_L_law_2766 {p : Program} {l : Launch} {e : Env} {s : State} {m : MethodId} {args : Array Value} {below : List Frame} {meth : Method} {c : Code} {Z : State → Prop} {G : mgT} {o L : Nat} {xs : Nat → Int32} (hl0 : l.stackTraces = false) (S : CallFix p m c cL_law 9 s args TT RL) (hG : GK G s s.heap) (hX : va_X o L xs s s.heap) (hbl : o < s.heap.size) (hbA : ¬ Ah G o) (hgh : gh G = s.heap.size) (hend : ∀ (pc : Nat) (H : Heap) (ls : Array Slot), decode cL_law pc = .ok (.ireturn, 1) → W p l e room_1 s m args below meth c H [] 603072 7223402 Z (F0 m pc ls [.int 1])) : ∀ (K28 : Option Nat → Option Nat → Option Nat → Option Nat → Int32 → Nat → mmT → Prop) (kK28 : ∀ (r1 : Option Nat) (r2 : Option Nat) (r3 : Option Nat) (r4 : Option Nat) (x5 : Int32) (t28 : Nat) (μ : mmT) (H : Heap) (locs : List Loc) (ls : Array Slot), Mm G μ H → va_S (Ah G) s.heap H locs → lv_has ls 9 [(0, .ref o), (1, va_rf r1), (2, va_rf r2), (3, va_rf r3), (4, va_rf r4), (5, .int x5)] → K28 r1 r2 r3 r4 x5 t28 μ → W p l e room_1 s m args below meth c H locs (652 + 2 * t28) (7573 + 12 * t28) Z (F0 m 28 ls [])) (r1 : Option Nat) (r2 : Option Nat) (r3 : Option Nat) (r4 : Option Nat) (x5 : Int32) (t28 : Nat) (μ : mmT) (H : Heap) (locs : List Loc) (ls : Array Slot), Mm G μ H → va_S (Ah G) s.heap H locs → lv_has ls 9 [(0, .ref o), (1, va_rf r1), (2, va_rf r2), (3, va_rf r3), (4, va_rf r4), (5, .int x5)] → w_L_law_b2766 G o L xs K28 r1 r2 r3 r4 x5 t28 μ → W p l e room_1 s m args below meth c H locs (654 + 2 * t28) (7585 + 12 * t28) Z (F0 m 2766 ls []) := by
  intro K28 kK28 r1 r2 r3 r4 x5 t28 μ H locs ls hM hS hl h
  unfold w_L_law_b2766 at h
  obtain ⟨ht28, h⟩ := h
  refine lv_iinc (v := (x5 + nI 3)) (lv' := [(5, .int (x5 + nI 3)), (0, .ref o), (1, va_rf r1), (2, va_rf r2), (3, va_rf r3), (4, va_rf r4)]) S.1 S.2.1 dL_law_2766 hl (k := 5) rfl rfl (by decide) (by simp [List.filter, mz_cat]) (fun ls hl => ?_)
  refine lv_goto (tgt := 28) S.1 S.2.1 dL_law_2769 (by decide) ?_
  refine W.widen (k := 652 + 2 * (t28 + 1)) (n := 7573 + 12 * (t28 + 1)) (by omega) (by omega) ?_
  exact kK28 r1 r2 r3 r4 (x5 + nI 3) (t28 + 1) μ H locs ls hM hS (lv_sub hl [1, 2, 3, 4, 5, 0] rfl) h
set_option maxRecDepth 100000 in
set_option maxHeartbeats 4000000 in
theorem cB_L_law_349 {p : Program} {l : Launch} {e : Env} {s : State} {m : MethodId} {args : Array Value} {below : List Frame} {meth : Method} {c : Code} {Z : State → Prop} {G : mgT} {o L : Nat} {xs : Nat → Int32} (hl0 : l.stackTraces = false) (S : CallFix p m c cL_law 9 s args TT RL) (hG : GK G s s.heap) (hX : va_X o L xs s s.heap) (hbl : o < s.heap.size) (hbA : ¬ Ah G o) (hgh : gh G = s.heap.size) (hend : ∀ (pc : Nat) (H : Heap) (ls : Array Slot), decode cL_law pc = .ok (.ireturn, 1) → W p l e room_1 s m args below meth c H [] 603072 7223402 Z (F0 m pc ls [.int 1])) : ∀ (K28 : Option Nat → Option Nat → Option Nat → Option Nat → Int32 → Nat → mmT → Prop) (kK28 : ∀ (r1 : Option Nat) (r2 : Option Nat) (r3 : Option Nat) (r4 : Option Nat) (x5 : Int32) (t28 : Nat) (μ : mmT) (H : Heap) (locs : List Loc) (ls : Array Slot), Mm G μ H → va_S (Ah G) s.heap H locs → lv_has ls 9 [(0, .ref o), (1, va_rf r1), (2, va_rf r2), (3, va_rf r3), (4, va_rf r4), (5, .int x5)] → K28 r1 r2 r3 r4 x5 t28 μ → W p l e room_1 s m args below meth c H locs (652 + 2 * t28) (7573 + 12 * t28) Z (F0 m 28 ls [])) (r1 : Option Nat) (r2 : Option Nat) (r3 : Option Nat) (r4 : Option Nat) (x5 : Int32) (t28 : Nat) (μ : mmT) (H : Heap) (locs : List Loc) (ls : Array Slot), Mm G μ H → va_S (Ah G) s.heap H locs → lv_has ls 9 [(0, .ref o), (1, va_rf r1), (2, va_rf r2), (3, va_rf r3), (4, va_rf r4), (5, .int x5)] → w_L_law_b349 G o L xs K28 r1 r2 r3 r4 x5 t28 μ → W p l e room_1 s m args below meth c H locs (654 + 2 * t28) (7585 + 12 * t28) Z (F0 m 349 ls []) := by
  intro K28 kK28 r1 r2 r3 r4 x5 t28 μ H locs ls hM hS hl h
  unfold w_L_law_b349 at h
  obtain ⟨ht28, h⟩ := h
  refine lv_goto (tgt := 2766) S.1 S.2.1 dL_law_349 (by decide) ?_
  refine W.widen (k := 654 + 2 * t28) (n := 7585 + 12 * t28) (by omega) (by omega) ?_
  exact cB_L_law_2766 hl0 S hG hX hbl hbA hgh hend K28 kK28 r1 r2 r3 r4 x5 t28 μ H locs ls hM hS (lv_sub hl [0, 1, 2, 3, 4, 5] rfl) h
set_option maxRecDepth 100000 in
set_option maxHeartbeats 4000000 in
theorem cB_L_law_284 {p : Program} {l : Launch} {e : Env} {s : State} {m : MethodId} {args : Array Value} {below : List Frame} {meth : Method} {c : Code} {Z : State → Prop} {G : mgT} {o L : Nat} {xs : Nat → Int32} (hl0 : l.stackTraces = false) (S : CallFix p m c cL_law 9 s args TT RL) (hG : GK G s s.heap) (hX : va_X o L xs s s.heap) (hbl : o < s.heap.size) (hbA : ¬ Ah G o) (hgh : gh G = s.heap.size) (hend : ∀ (pc : Nat) (H : Heap) (ls : Array Slot), decode cL_law pc = .ok (.ireturn, 1) → W p l e room_1 s m args below meth c H [] 603072 7223402 Z (F0 m pc ls [.int 1])) : ∀ (K28 : Option Nat → Option Nat → Option Nat → Option Nat → Int32 → Nat → mmT → Prop) (kK28 : ∀ (r1 : Option Nat) (r2 : Option Nat) (r3 : Option Nat) (r4 : Option Nat) (x5 : Int32) (t28 : Nat) (μ : mmT) (H : Heap) (locs : List Loc) (ls : Array Slot), Mm G μ H → va_S (Ah G) s.heap H locs → lv_has ls 9 [(0, .ref o), (1, va_rf r1), (2, va_rf r2), (3, va_rf r3), (4, va_rf r4), (5, .int x5)] → K28 r1 r2 r3 r4 x5 t28 μ → W p l e room_1 s m args below meth c H locs (652 + 2 * t28) (7573 + 12 * t28) Z (F0 m 28 ls [])) (r1 : Option Nat) (r2 : Option Nat) (r3 : Option Nat) (r4 : Option Nat) (x5 : Int32) (t28 : Nat) (μ : mmT) (H : Heap) (locs : List Loc) (ls : Array Slot), Mm G μ H → va_S (Ah G) s.heap H locs → lv_has ls 9 [(0, .ref o), (1, va_rf r1), (2, va_rf r2), (3, va_rf r3), (4, va_rf r4), (5, .int x5)] → w_L_law_b284 G o L xs K28 r1 r2 r3 r4 x5 t28 μ → W p l e room_1 s m args below meth c H locs (652 + 2 * t28) (7573 + 12 * t28) Z (F0 m 284 ls []) := by
  intro K28 kK28 r1 r2 r3 r4 x5 t28 μ H locs ls hM hS hl h
  unfold w_L_law_b284 at h
  obtain ⟨ht28, h⟩ := h
  refine mz_aload_n (x := r1) S.1 S.2.1 dL_law_284 rfl (lv_at hl 1 rfl) ?_
  refine lv_aload_n S.1 S.2.1 dL_law_285 rfl (lv_at hl 0 rfl) ?_
  refine lv_iload S.1 S.2.1 dL_law_286 (lv_at hl 5 rfl) ?_
  refine lv_iconst (v := (nI 1)) S.1 S.2.1 dL_law_288 (by decide) ?_
  refine lv_iadd S.1 S.2.1 dL_law_289 ?_
  obtain ⟨b9, h⟩ := h
  refine va_sld S.1 S.2.1 hX hbl hbA hS b9 dL_law_290 ?_
  refine lv_aload_n S.1 S.2.1 dL_law_291 rfl (lv_at hl 0 rfl) ?_
  refine lv_iload S.1 S.2.1 dL_law_292 (lv_at hl 5 rfl) ?_
  refine lv_iconst (v := (nI 2)) S.1 S.2.1 dL_law_294 (by decide) ?_
  refine lv_iadd S.1 S.2.1 dL_law_295 ?_
  obtain ⟨b10, h⟩ := h
  refine va_sld S.1 S.2.1 hX hbl hbA hS b10 dL_law_296 ?_
  refine mz_aload_n (x := r3) S.1 S.2.1 dL_law_297 rfl (lv_at hl 3 rfl) ?_
  refine mz_SH S hG hM hS (As := [va_rf r1, .int (xs (x5 + (nI 1)).toNatClampNeg), .int (xs (x5 + (nI 2)).toNatClampNeg), va_rf r3]) (rest := []) (c_L_addNest hl0 h) yh_L_addNest tw_854 tw_855 ⟨Nat.le_of_ble_eq_true rfl, Nat.le_of_ble_eq_true rfl⟩ ⟨(by show (652 + 2 * t28) + 1 ≤ 603072; omega), (by show (7573 + 12 * t28) + 6 ≤ 7223402; omega)⟩ rfl hl.1 rfl (Nat.le_of_ble_eq_true rfl) dL_law_298 (fun v9 μ12 H locs hp hM hS => ?_)
  obtain ⟨u11, rfl, h⟩ := hp
  refine W.cs (cells' := 653 + 2 * t28) (slots' := 7579 + 12 * t28) (by first | omega | (dsimp only; omega)) (by first | omega | (dsimp only; omega)) ?_
  refine lv_istore (lv' := [(6, .int u11), (0, .ref o), (1, va_rf r1), (2, va_rf r2), (3, va_rf r3), (4, va_rf r4), (5, .int x5)]) S.1 S.2.1 dL_law_301 hl (by decide) rfl (fun ls hl => ?_)
  refine mz_aload_n (x := r2) S.1 S.2.1 dL_law_303 rfl (lv_at hl 3 rfl) ?_
  refine lv_aload_n S.1 S.2.1 dL_law_304 rfl (lv_at hl 1 rfl) ?_
  refine lv_iload S.1 S.2.1 dL_law_305 (lv_at hl 6 rfl) ?_
  refine lv_iconst (v := (nI 1)) S.1 S.2.1 dL_law_307 (by decide) ?_
  refine lv_iadd S.1 S.2.1 dL_law_308 ?_
  obtain ⟨b13, h⟩ := h
  refine va_sld S.1 S.2.1 hX hbl hbA hS b13 dL_law_309 ?_
  refine lv_aload_n S.1 S.2.1 dL_law_310 rfl (lv_at hl 1 rfl) ?_
  refine lv_iload S.1 S.2.1 dL_law_311 (lv_at hl 6 rfl) ?_
  refine lv_iconst (v := (nI 2)) S.1 S.2.1 dL_law_313 (by decide) ?_
  refine lv_iadd S.1 S.2.1 dL_law_314 ?_
  obtain ⟨b14, h⟩ := h
  refine va_sld S.1 S.2.1 hX hbl hbA hS b14 dL_law_315 ?_
  obtain ⟨a15, e16, h⟩ := h
  refine mz_o2 e16 ?_
  obtain ⟨k17, h⟩ := h
  refine mz_V S hG hM hS cf_10 k17 (As := [.int (xs (x5 + (nI 1)).toNatClampNeg), .int (xs (x5 + (nI 2)).toNatClampNeg)]) (rest := []) (c_X11_addNest h) yf_X11_addNest tw_1547 tw_1548 tw_1549 ⟨Nat.le_of_ble_eq_true rfl, Nat.le_of_ble_eq_true rfl⟩ ⟨(by show (653 + 2 * t28) + 0 ≤ 603072; omega), (by show (7579 + 12 * t28) + 0 ≤ 7223402; omega)⟩ rfl hl.1 rfl (Nat.le_of_ble_eq_true rfl) dL_law_316 (fun v9 μ19 H locs hp hM hS => ?_)
  obtain ⟨u18, rfl, h⟩ := hp
  refine W.cs (cells' := 653 + 2 * t28) (slots' := 7579 + 12 * t28) (by first | omega | (dsimp only; omega)) (by first | omega | (dsimp only; omega)) ?_
  refine lv_istore (lv' := [(7, .int u18), (6, .int u11), (0, .ref o), (1, va_rf r1), (2, va_rf r2), (3, va_rf r3), (4, va_rf r4), (5, .int x5)]) S.1 S.2.1 dL_law_319 hl (by decide) rfl (fun ls hl => ?_)
  refine mz_aload_n (x := r2) S.1 S.2.1 dL_law_321 rfl (lv_at hl 4 rfl) ?_
  refine mz_o0 e16 ?_
  obtain ⟨k20, h⟩ := h
  refine mz_V S hG hM hS cf_10 k20 (As := []) (rest := []) (c_X11_thrown h) yf_X11_thrown tw_1543 tw_1544 tw_1545 ⟨Nat.le_of_ble_eq_true rfl, Nat.le_of_ble_eq_true rfl⟩ ⟨(by show (653 + 2 * t28) + 0 ≤ 603072; omega), (by show (7579 + 12 * t28) + 0 ≤ 7223402; omega)⟩ rfl hl.1 rfl (Nat.le_of_ble_eq_true rfl) dL_law_322 (fun v9 μ9 H locs hp hM hS => ?_)
  obtain ⟨u21, rfl, e9, h⟩ := hp
  rw [e9] at hM
  refine W.cs (cells' := 653 + 2 * t28) (slots' := 7579 + 12 * t28) (by first | omega | (dsimp only; omega)) (by first | omega | (dsimp only; omega)) ?_
  refine lv_iload S.1 S.2.1 dL_law_325 (lv_at hl 1 rfl) ?_
  refine lv_icmp_eq (tgt := 332) S.1 S.2.1 dL_law_327 (by decide) (fun c22 => ?_) (fun c22 => ?_)
  · have h := h.1 c22
    refine lv_iload S.1 S.2.1 dL_law_332 (lv_at hl 1 rfl) ?_
    refine lv_if_ne (tgt := 349) S.1 S.2.1 dL_law_334 (by decide) (fun c23 => ?_) (fun c23 => ?_)
    · have h := h.1 c23
      refine W.widen (k := 654 + 2 * t28) (n := 7585 + 12 * t28) (by omega) (by omega) ?_
      exact cB_L_law_349 hl0 S hG hX hbl hbA hgh hend K28 kK28 r1 r2 r3 r4 x5 t28 μ19 H locs ls hM hS (lv_sub hl [2, 3, 4, 5, 6, 7] rfl) h
    · have h := h.2 c23
      refine mz_aload_n (x := r3) S.1 S.2.1 dL_law_337 rfl (lv_at hl 5 rfl) ?_
      refine lv_iconst (v := (nI 0)) S.1 S.2.1 dL_law_338 (by decide) ?_
      obtain ⟨a24, e25, h⟩ := h
      refine mz_o1 e25 ?_
      obtain ⟨k26, h⟩ := h
      obtain ⟨b27, h⟩ := h
      refine mz_lald S hG hM dL_law_339 k26 b27 ?_
      refine lv_iload S.1 S.2.1 dL_law_340 (lv_at hl 0 rfl) ?_
      refine lv_i2l S.1 S.2.1 dL_law_342 rfl ?_
      refine W.lcmp S.1 S.2.1 dL_law_343 ?_
      refine lv_if_eq (tgt := 349) S.1 S.2.1 dL_law_344 (by decide) (fun c28 => ?_) (fun c28 => ?_)
      · have h := h.1 c28
        refine W.widen (k := 654 + 2 * t28) (n := 7585 + 12 * t28) (by omega) (by omega) ?_
        exact cB_L_law_349 hl0 S hG hX hbl hbA hgh hend K28 kK28 r1 r2 r3 r4 x5 t28 μ19 H locs ls hM hS (lv_sub hl [2, 3, 4, 5, 6, 7] rfl) h
      · have h := h.2 c28
        refine lv_iconst (v := (nI 0)) S.1 S.2.1 dL_law_347 (by decide) ?_
        exact h.elim
  · have h := h.2 c22
    refine lv_iconst (v := (nI 0)) S.1 S.2.1 dL_law_330 (by decide) ?_
    exact h.elim
set_option maxRecDepth 100000 in
set_option maxHeartbeats 4000000 in
theorem cB_L_law_393 {p : Program} {l : Launch} {e : Env} {s : State} {m : MethodId} {args : Array Value} {below : List Frame} {meth : Method} {c : Code} {Z : State → Prop} {G : mgT} {o L : Nat} {xs : Nat → Int32} (hl0 : l.stackTraces = false) (S : CallFix p m c cL_law 9 s args TT RL) (hG : GK G s s.heap) (hX : va_X o L xs s s.heap) (hbl : o < s.heap.size) (hbA : ¬ Ah G o) (hgh : gh G = s.heap.size) (hend : ∀ (pc : Nat) (H : Heap) (ls : Array Slot), decode cL_law pc = .ok (.ireturn, 1) → W p l e room_1 s m args below meth c H [] 603072 7223402 Z (F0 m pc ls [.int 1])) : ∀ (K28 : Option Nat → Option Nat → Option Nat → Option Nat → Int32 → Nat → mmT → Prop) (kK28 : ∀ (r1 : Option Nat) (r2 : Option Nat) (r3 : Option Nat) (r4 : Option Nat) (x5 : Int32) (t28 : Nat) (μ : mmT) (H : Heap) (locs : List Loc) (ls : Array Slot), Mm G μ H → va_S (Ah G) s.heap H locs → lv_has ls 9 [(0, .ref o), (1, va_rf r1), (2, va_rf r2), (3, va_rf r3), (4, va_rf r4), (5, .int x5)] → K28 r1 r2 r3 r4 x5 t28 μ → W p l e room_1 s m args below meth c H locs (652 + 2 * t28) (7573 + 12 * t28) Z (F0 m 28 ls [])) (r1 : Option Nat) (r2 : Option Nat) (r3 : Option Nat) (r4 : Option Nat) (x5 : Int32) (t28 : Nat) (μ : mmT) (H : Heap) (locs : List Loc) (ls : Array Slot), Mm G μ H → va_S (Ah G) s.heap H locs → lv_has ls 9 [(0, .ref o), (1, va_rf r1), (2, va_rf r2), (3, va_rf r3), (4, va_rf r4), (5, .int x5)] → w_L_law_b393 G o L xs K28 r1 r2 r3 r4 x5 t28 μ → W p l e room_1 s m args below meth c H locs (654 + 2 * t28) (7585 + 12 * t28) Z (F0 m 393 ls []) := by
  intro K28 kK28 r1 r2 r3 r4 x5 t28 μ H locs ls hM hS hl h
  unfold w_L_law_b393 at h
  obtain ⟨ht28, h⟩ := h
  refine lv_goto (tgt := 2766) S.1 S.2.1 dL_law_393 (by decide) ?_
  refine W.widen (k := 654 + 2 * t28) (n := 7585 + 12 * t28) (by omega) (by omega) ?_
  exact cB_L_law_2766 hl0 S hG hX hbl hbA hgh hend K28 kK28 r1 r2 r3 r4 x5 t28 μ H locs ls hM hS (lv_sub hl [0, 1, 2, 3, 4, 5] rfl) h
set_option maxRecDepth 100000 in
set_option maxHeartbeats 4000000 in
theorem cB_L_law_352 {p : Program} {l : Launch} {e : Env} {s : State} {m : MethodId} {args : Array Value} {below : List Frame} {meth : Method} {c : Code} {Z : State → Prop} {G : mgT} {o L : Nat} {xs : Nat → Int32} (hl0 : l.stackTraces = false) (S : CallFix p m c cL_law 9 s args TT RL) (hG : GK G s s.heap) (hX : va_X o L xs s s.heap) (hbl : o < s.heap.size) (hbA : ¬ Ah G o) (hgh : gh G = s.heap.size) (hend : ∀ (pc : Nat) (H : Heap) (ls : Array Slot), decode cL_law pc = .ok (.ireturn, 1) → W p l e room_1 s m args below meth c H [] 603072 7223402 Z (F0 m pc ls [.int 1])) : ∀ (K28 : Option Nat → Option Nat → Option Nat → Option Nat → Int32 → Nat → mmT → Prop) (kK28 : ∀ (r1 : Option Nat) (r2 : Option Nat) (r3 : Option Nat) (r4 : Option Nat) (x5 : Int32) (t28 : Nat) (μ : mmT) (H : Heap) (locs : List Loc) (ls : Array Slot), Mm G μ H → va_S (Ah G) s.heap H locs → lv_has ls 9 [(0, .ref o), (1, va_rf r1), (2, va_rf r2), (3, va_rf r3), (4, va_rf r4), (5, .int x5)] → K28 r1 r2 r3 r4 x5 t28 μ → W p l e room_1 s m args below meth c H locs (652 + 2 * t28) (7573 + 12 * t28) Z (F0 m 28 ls [])) (r1 : Option Nat) (r2 : Option Nat) (r3 : Option Nat) (r4 : Option Nat) (x5 : Int32) (t28 : Nat) (μ : mmT) (H : Heap) (locs : List Loc) (ls : Array Slot), Mm G μ H → va_S (Ah G) s.heap H locs → lv_has ls 9 [(0, .ref o), (1, va_rf r1), (2, va_rf r2), (3, va_rf r3), (4, va_rf r4), (5, .int x5)] → w_L_law_b352 G o L xs K28 r1 r2 r3 r4 x5 t28 μ → W p l e room_1 s m args below meth c H locs (652 + 2 * t28) (7573 + 12 * t28) Z (F0 m 352 ls []) := by
  intro K28 kK28 r1 r2 r3 r4 x5 t28 μ H locs ls hM hS hl h
  unfold w_L_law_b352 at h
  obtain ⟨ht28, h⟩ := h
  refine mz_aload_n (x := r1) S.1 S.2.1 dL_law_352 rfl (lv_at hl 1 rfl) ?_
  refine mz_aload_n (x := r3) S.1 S.2.1 dL_law_353 rfl (lv_at hl 3 rfl) ?_
  refine mz_SH S hG hM hS (As := [va_rf r1, va_rf r3]) (rest := []) (c_L_addCrow hl0 h) yh_L_addCrow tw_928 tw_929 ⟨Nat.le_of_ble_eq_true rfl, Nat.le_of_ble_eq_true rfl⟩ ⟨(by show (652 + 2 * t28) + 1 ≤ 603072; omega), (by show (7573 + 12 * t28) + 6 ≤ 7223402; omega)⟩ rfl hl.1 rfl (Nat.le_of_ble_eq_true rfl) dL_law_354 (fun v9 μ30 H locs hp hM hS => ?_)
  obtain ⟨u29, rfl, h⟩ := hp
  refine W.cs (cells' := 653 + 2 * t28) (slots' := 7579 + 12 * t28) (by first | omega | (dsimp only; omega)) (by first | omega | (dsimp only; omega)) ?_
  refine lv_istore (lv' := [(6, .int u29), (0, .ref o), (1, va_rf r1), (2, va_rf r2), (3, va_rf r3), (4, va_rf r4), (5, .int x5)]) S.1 S.2.1 dL_law_357 hl (by decide) rfl (fun ls hl => ?_)
  refine mz_aload_n (x := r2) S.1 S.2.1 dL_law_359 rfl (lv_at hl 3 rfl) ?_
  obtain ⟨a31, e32, h⟩ := h
  refine mz_o0 e32 ?_
  obtain ⟨k33, h⟩ := h
  refine mz_V S hG hM hS cf_10 k33 (As := []) (rest := []) (c_X11_addCrow h) yf_X11_addCrow tw_1582 tw_1583 tw_1584 ⟨Nat.le_of_ble_eq_true rfl, Nat.le_of_ble_eq_true rfl⟩ ⟨(by show (653 + 2 * t28) + 0 ≤ 603072; omega), (by show (7579 + 12 * t28) + 0 ≤ 7223402; omega)⟩ rfl hl.1 rfl (Nat.le_of_ble_eq_true rfl) dL_law_360 (fun v9 μ35 H locs hp hM hS => ?_)
  obtain ⟨u34, rfl, h⟩ := hp
  refine W.cs (cells' := 653 + 2 * t28) (slots' := 7579 + 12 * t28) (by first | omega | (dsimp only; omega)) (by first | omega | (dsimp only; omega)) ?_
  refine lv_istore (lv' := [(7, .int u34), (6, .int u29), (0, .ref o), (1, va_rf r1), (2, va_rf r2), (3, va_rf r3), (4, va_rf r4), (5, .int x5)]) S.1 S.2.1 dL_law_363 hl (by decide) rfl (fun ls hl => ?_)
  refine mz_aload_n (x := r2) S.1 S.2.1 dL_law_365 rfl (lv_at hl 4 rfl) ?_
  refine mz_o0 e32 ?_
  obtain ⟨k36, h⟩ := h
  refine mz_V S hG hM hS cf_10 k36 (As := []) (rest := []) (c_X11_thrown h) yf_X11_thrown tw_1543 tw_1544 tw_1545 ⟨Nat.le_of_ble_eq_true rfl, Nat.le_of_ble_eq_true rfl⟩ ⟨(by show (653 + 2 * t28) + 0 ≤ 603072; omega), (by show (7579 + 12 * t28) + 0 ≤ 7223402; omega)⟩ rfl hl.1 rfl (Nat.le_of_ble_eq_true rfl) dL_law_366 (fun v9 μ9 H locs hp hM hS => ?_)
  obtain ⟨u37, rfl, e9, h⟩ := hp
  rw [e9] at hM
  refine W.cs (cells' := 653 + 2 * t28) (slots' := 7579 + 12 * t28) (by first | omega | (dsimp only; omega)) (by first | omega | (dsimp only; omega)) ?_
  refine lv_iload S.1 S.2.1 dL_law_369 (lv_at hl 1 rfl) ?_
  refine lv_icmp_eq (tgt := 376) S.1 S.2.1 dL_law_371 (by decide) (fun c38 => ?_) (fun c38 => ?_)
  · have h := h.1 c38
    refine lv_iload S.1 S.2.1 dL_law_376 (lv_at hl 1 rfl) ?_
    refine lv_if_ne (tgt := 393) S.1 S.2.1 dL_law_378 (by decide) (fun c39 => ?_) (fun c39 => ?_)
    · have h := h.1 c39
      refine W.widen (k := 654 + 2 * t28) (n := 7585 + 12 * t28) (by omega) (by omega) ?_
      exact cB_L_law_393 hl0 S hG hX hbl hbA hgh hend K28 kK28 r1 r2 r3 r4 x5 t28 μ35 H locs ls hM hS (lv_sub hl [2, 3, 4, 5, 6, 7] rfl) h
    · have h := h.2 c39
      refine mz_aload_n (x := r3) S.1 S.2.1 dL_law_381 rfl (lv_at hl 5 rfl) ?_
      refine lv_iconst (v := (nI 0)) S.1 S.2.1 dL_law_382 (by decide) ?_
      obtain ⟨a40, e41, h⟩ := h
      refine mz_o1 e41 ?_
      obtain ⟨k42, h⟩ := h
      obtain ⟨b43, h⟩ := h
      refine mz_lald S hG hM dL_law_383 k42 b43 ?_
      refine lv_iload S.1 S.2.1 dL_law_384 (lv_at hl 0 rfl) ?_
      refine lv_i2l S.1 S.2.1 dL_law_386 rfl ?_
      refine W.lcmp S.1 S.2.1 dL_law_387 ?_
      refine lv_if_eq (tgt := 393) S.1 S.2.1 dL_law_388 (by decide) (fun c44 => ?_) (fun c44 => ?_)
      · have h := h.1 c44
        refine W.widen (k := 654 + 2 * t28) (n := 7585 + 12 * t28) (by omega) (by omega) ?_
        exact cB_L_law_393 hl0 S hG hX hbl hbA hgh hend K28 kK28 r1 r2 r3 r4 x5 t28 μ35 H locs ls hM hS (lv_sub hl [2, 3, 4, 5, 6, 7] rfl) h
      · have h := h.2 c44
        refine lv_iconst (v := (nI 0)) S.1 S.2.1 dL_law_391 (by decide) ?_
        exact h.elim
  · have h := h.2 c38
    refine lv_iconst (v := (nI 0)) S.1 S.2.1 dL_law_374 (by decide) ?_
    exact h.elim
set_option maxRecDepth 100000 in
set_option maxHeartbeats 4000000 in
theorem cB_L_law_461 {p : Program} {l : Launch} {e : Env} {s : State} {m : MethodId} {args : Array Value} {below : List Frame} {meth : Method} {c : Code} {Z : State → Prop} {G : mgT} {o L : Nat} {xs : Nat → Int32} (hl0 : l.stackTraces = false) (S : CallFix p m c cL_law 9 s args TT RL) (hG : GK G s s.heap) (hX : va_X o L xs s s.heap) (hbl : o < s.heap.size) (hbA : ¬ Ah G o) (hgh : gh G = s.heap.size) (hend : ∀ (pc : Nat) (H : Heap) (ls : Array Slot), decode cL_law pc = .ok (.ireturn, 1) → W p l e room_1 s m args below meth c H [] 603072 7223402 Z (F0 m pc ls [.int 1])) : ∀ (K28 : Option Nat → Option Nat → Option Nat → Option Nat → Int32 → Nat → mmT → Prop) (kK28 : ∀ (r1 : Option Nat) (r2 : Option Nat) (r3 : Option Nat) (r4 : Option Nat) (x5 : Int32) (t28 : Nat) (μ : mmT) (H : Heap) (locs : List Loc) (ls : Array Slot), Mm G μ H → va_S (Ah G) s.heap H locs → lv_has ls 9 [(0, .ref o), (1, va_rf r1), (2, va_rf r2), (3, va_rf r3), (4, va_rf r4), (5, .int x5)] → K28 r1 r2 r3 r4 x5 t28 μ → W p l e room_1 s m args below meth c H locs (652 + 2 * t28) (7573 + 12 * t28) Z (F0 m 28 ls [])) (r1 : Option Nat) (r2 : Option Nat) (r3 : Option Nat) (r4 : Option Nat) (x5 : Int32) (t28 : Nat) (μ : mmT) (H : Heap) (locs : List Loc) (ls : Array Slot), Mm G μ H → va_S (Ah G) s.heap H locs → lv_has ls 9 [(0, .ref o), (1, va_rf r1), (2, va_rf r2), (3, va_rf r3), (4, va_rf r4), (5, .int x5)] → w_L_law_b461 G o L xs K28 r1 r2 r3 r4 x5 t28 μ → W p l e room_1 s m args below meth c H locs (654 + 2 * t28) (7585 + 12 * t28) Z (F0 m 461 ls []) := by
  intro K28 kK28 r1 r2 r3 r4 x5 t28 μ H locs ls hM hS hl h
  unfold w_L_law_b461 at h
  obtain ⟨ht28, h⟩ := h
  refine lv_goto (tgt := 2766) S.1 S.2.1 dL_law_461 (by decide) ?_
  refine W.widen (k := 654 + 2 * t28) (n := 7585 + 12 * t28) (by omega) (by omega) ?_
  exact cB_L_law_2766 hl0 S hG hX hbl hbA hgh hend K28 kK28 r1 r2 r3 r4 x5 t28 μ H locs ls hM hS (lv_sub hl [0, 1, 2, 3, 4, 5] rfl) h

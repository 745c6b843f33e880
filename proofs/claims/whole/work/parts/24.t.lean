set_option maxRecDepth 100000 in
set_option maxHeartbeats 4000000 in
theorem c_X11_builds {l : Launch} {G : mgT} {μ : mmT} {o : Nat} {x1 : Int32} {x2 : Int32} {Q : Int32 → mmT → Prop} (h : w_X11_builds G μ o x1 x2 Q) : MC G l yX11_builds cX11_builds 5 (some .int) { frames := 1, cells := 0, slots := 0, locals := 23 } [.ref o, .int x1, .int x2] μ (pI Q) := by
  refine mz_MC (by decide +kernel) (Nat.le_of_ble_eq_true rfl) (fun p e s m args below meth c S hG hr hlk hnm => ?_)
  have hB19 : ∀ (μ : mmT) (H : Heap) (locs : List Loc) (ls : Array Slot), Mm G μ H → va_S (Ah G) s.heap H locs → lv_has ls 5 [(0, .ref o)] → w_X11_builds_b19 G o Q  μ → W p l e { frames := 1, cells := 0, slots := 0, locals := 23 } s m args below meth c H locs 0 0 (MQ below (mQ G (pI Q)) args s 0 0 (Ah G)) (F0 m 19 ls []) := by
    intro  μ H locs ls hM hS hl h
    unfold w_X11_builds_b19 at h
    refine lv_iconst (v := (nI 1)) S.1 S.2.1 dX11_builds_19 (by decide) ?_
    exact mz_iret S hr hlk hM hS rfl (Nat.le_of_ble_eq_true rfl) (Nat.le_of_ble_eq_true rfl) dX11_builds_20 ⟨_, rfl, h⟩
  have hB39 : ∀ (n : Nat) (x1 : Int32) (x2 : Int32) (x3 : Int32) (x4 : Int32) (μ : mmT) (H : Heap) (locs : List Loc) (ls : Array Slot), Mm G μ H → va_S (Ah G) s.heap H locs → lv_has ls 5 [(0, .ref o), (1, .int x1), (2, .int x2), (3, .int x3), (4, .int x4)] → w_X11_luilds_l39 G o Q  n x1 x2 x3 x4 μ → W p l e { frames := 1, cells := 0, slots := 0, locals := 23 } s m args below meth c H locs 0 0 (MQ below (mQ G (pI Q)) args s 0 0 (Ah G)) (F0 m 39 ls []) := by
    intro  n
    induction n with
    | zero =>
      intro x1 x2 x3 x4 μ H locs ls hM hS hl h
      exact False.elim h
    | succ n ih =>
      intro x1 x2 x3 x4 μ H locs ls hM hS hl h
      have h : w_X11_builds_b39 G o Q  (w_X11_luilds_l39 G o Q  n) x1 x2 x3 x4 μ := h
      unfold w_X11_builds_b39 at h
      refine lv_iload S.1 S.2.1 dX11_builds_39 (lv_at hl 4 rfl) ?_
      refine lv_bipush (v := (nI 21)) S.1 S.2.1 dX11_builds_41 (by decide) ?_
      refine lv_icmp_ge (tgt := 60) S.1 S.2.1 dX11_builds_43 (by decide) (fun c11 => ?_) (fun c11 => ?_)
      · have h := h.1 c11
        refine lv_aload_n S.1 S.2.1 dX11_builds_60 rfl (lv_at hl 0 rfl) ?_
        refine lv_iload_n S.1 S.2.1 dX11_builds_61 rfl (lv_at hl 3 rfl) ?_
        refine lv_iconst (v := (nI 0)) S.1 S.2.1 dX11_builds_62 (by decide) ?_
        refine lv_iload_n S.1 S.2.1 dX11_builds_63 rfl (lv_at hl 1 rfl) ?_
        obtain ⟨k12, h⟩ := h
        refine mz_V S hG hM hS cf_10 k12 (As := [.int x3, .int (nI 0), .int x1]) (rest := []) (c_X11_setsNest h) yf_X11_setsNest tw_1562 tw_1564 ts_24 ⟨Nat.le_of_ble_eq_true rfl, Nat.le_of_ble_eq_true rfl⟩ ⟨(Nat.le_of_ble_eq_true rfl), (Nat.le_of_ble_eq_true rfl)⟩ rfl hl.1 rfl (Nat.le_of_ble_eq_true rfl) dX11_builds_64 (fun v9 μ13 H locs hp hM hS => ?_)
        obtain ⟨rfl, h⟩ := hp
        refine W.cs (cells' := 0) (slots' := 0) rfl rfl ?_
        refine lv_aload_n S.1 S.2.1 dX11_builds_67 rfl (lv_at hl 0 rfl) ?_
        refine lv_iload_n S.1 S.2.1 dX11_builds_68 rfl (lv_at hl 3 rfl) ?_
        refine lv_iconst (v := (nI 1)) S.1 S.2.1 dX11_builds_69 (by decide) ?_
        refine lv_iload_n S.1 S.2.1 dX11_builds_70 rfl (lv_at hl 2 rfl) ?_
        obtain ⟨k14, h⟩ := h
        refine mz_V S hG hM hS cf_10 k14 (As := [.int x3, .int (nI 1), .int x2]) (rest := []) (c_X11_setsNest h) yf_X11_setsNest tw_1562 tw_1564 ts_24 ⟨Nat.le_of_ble_eq_true rfl, Nat.le_of_ble_eq_true rfl⟩ ⟨(Nat.le_of_ble_eq_true rfl), (Nat.le_of_ble_eq_true rfl)⟩ rfl hl.1 rfl (Nat.le_of_ble_eq_true rfl) dX11_builds_71 (fun v9 μ15 H locs hp hM hS => ?_)
        obtain ⟨rfl, h⟩ := hp
        refine W.cs (cells' := 0) (slots' := 0) rfl rfl ?_
        refine lv_aload_n S.1 S.2.1 dX11_builds_74 rfl (lv_at hl 0 rfl) ?_
        obtain ⟨k16, h⟩ := h
        refine mz_getr S hG hM cf_10 fd_321 tw_1483 dX11_builds_75 k16 ?_
        refine lv_iconst (v := (nI 0)) S.1 S.2.1 dX11_builds_78 (by decide) ?_
        refine lv_iload_n S.1 S.2.1 dX11_builds_79 rfl (lv_at hl 3 rfl) ?_
        refine lv_iconst (v := (nI 1)) S.1 S.2.1 dX11_builds_80 (by decide) ?_
        refine lv_iadd S.1 S.2.1 dX11_builds_81 ?_
        obtain ⟨a17, e18, h⟩ := h
        refine mz_o2 e18 ?_
        obtain ⟨k19, h⟩ := h
        obtain ⟨b20, h⟩ := h
        refine mz_iast S hG hM hS dX11_builds_82 k19 b20 (fun H locs hM hS hz9 => ?_)
        refine lv_aload_n S.1 S.2.1 dX11_builds_83 rfl (lv_at hl 0 rfl) ?_
        refine lv_iload_n S.1 S.2.1 dX11_builds_84 rfl (lv_at hl 3 rfl) ?_
        refine mz_V S hG hM hS cf_10 k16 (As := [.int x3]) (rest := []) (c_X11_done h) yf_X11_done tw_1566 tw_1568 ts_25 ⟨Nat.le_of_ble_eq_true rfl, Nat.le_of_ble_eq_true rfl⟩ ⟨(Nat.le_of_ble_eq_true rfl), (Nat.le_of_ble_eq_true rfl)⟩ rfl hl.1 rfl (Nat.le_of_ble_eq_true rfl) dX11_builds_85 (fun v9 μ22 H locs hp hM hS => ?_)
        obtain ⟨u21, rfl, h⟩ := hp
        refine W.cs (cells' := 0) (slots' := 0) rfl rfl ?_
        exact mz_iret S hr hlk hM hS rfl (Nat.le_of_ble_eq_true rfl) (Nat.le_of_ble_eq_true rfl) dX11_builds_88 ⟨_, rfl, h⟩
      · have h := h.2 c11
        refine lv_aload_n S.1 S.2.1 dX11_builds_46 rfl (lv_at hl 0 rfl) ?_
        refine lv_iload_n S.1 S.2.1 dX11_builds_47 rfl (lv_at hl 3 rfl) ?_
        refine lv_iload S.1 S.2.1 dX11_builds_48 (lv_at hl 4 rfl) ?_
        refine lv_iconst (v := (nI 0)) S.1 S.2.1 dX11_builds_50 (by decide) ?_
        obtain ⟨k23, h⟩ := h
        refine mz_V S hG hM hS cf_10 k23 (As := [.int x3, .int x4, .int (nI 0)]) (rest := []) (c_X11_setsNest h) yf_X11_setsNest tw_1562 tw_1564 ts_24 ⟨Nat.le_of_ble_eq_true rfl, Nat.le_of_ble_eq_true rfl⟩ ⟨(Nat.le_of_ble_eq_true rfl), (Nat.le_of_ble_eq_true rfl)⟩ rfl hl.1 rfl (Nat.le_of_ble_eq_true rfl) dX11_builds_51 (fun v9 μ24 H locs hp hM hS => ?_)
        obtain ⟨rfl, h⟩ := hp
        refine W.cs (cells' := 0) (slots' := 0) rfl rfl ?_
        refine lv_iinc (v := (x4 + nI 1)) (lv' := [(4, .int (x4 + nI 1)), (0, .ref o), (1, .int x1), (2, .int x2), (3, .int x3)]) S.1 S.2.1 dX11_builds_54 hl (k := 4) rfl rfl (by decide) rfl (fun ls hl => ?_)
        refine lv_goto (tgt := 39) S.1 S.2.1 dX11_builds_57 (by decide) ?_
        exact ih x1 x2 x3 (x4 + nI 1) μ24 H locs ls hM hS (lv_sub hl [1, 2, 3, 4, 0] rfl) h
  intro H locs ls hM hS hl
  have hl : lv_has ls 5 [(0, .ref o), (1, .int x1), (2, .int x2)] := hl
  unfold w_X11_builds at h
  refine lv_iload_n S.1 S.2.1 dX11_builds_0 rfl (lv_at hl 1 rfl) ?_
  refine lv_iconst (v := (nI 1)) S.1 S.2.1 dX11_builds_1 (by decide) ?_
  refine lv_bipush (v := (nI 9)) S.1 S.2.1 dX11_builds_2 (by decide) ?_
  refine mz_S S hG hM hS (As := [.int x1, .int (nI 1), .int (nI 9)]) (rest := []) (c_X11_in h) yf_X11_in tw_1559 tw_1560 ⟨Nat.le_of_ble_eq_true rfl, Nat.le_of_ble_eq_true rfl⟩ ⟨(Nat.le_of_ble_eq_true rfl), (Nat.le_of_ble_eq_true rfl)⟩ rfl hl.1 rfl (Nat.le_of_ble_eq_true rfl) dX11_builds_4 (fun v9 μ9 H locs hp hM hS => ?_)
  obtain ⟨u1, rfl, e9, h⟩ := hp
  rw [e9] at hM
  refine W.cs (cells' := 0) (slots' := 0) rfl rfl ?_
  refine lv_if_eq (tgt := 19) S.1 S.2.1 dX11_builds_7 (by decide) (fun c2 => ?_) (fun c2 => ?_)
  · have h := h.1 c2
    exact hB19  μ H locs ls hM hS (lv_sub hl [0] rfl) h
  · have h := h.2 c2
    refine lv_iload_n S.1 S.2.1 dX11_builds_10 rfl (lv_at hl 2 rfl) ?_
    refine lv_iconst (v := (nI 0)) S.1 S.2.1 dX11_builds_11 (by decide) ?_
    refine lv_iconst (v := (nI 4)) S.1 S.2.1 dX11_builds_12 (by decide) ?_
    refine mz_S S hG hM hS (As := [.int x2, .int (nI 0), .int (nI 4)]) (rest := []) (c_X11_in h) yf_X11_in tw_1559 tw_1560 ⟨Nat.le_of_ble_eq_true rfl, Nat.le_of_ble_eq_true rfl⟩ ⟨(Nat.le_of_ble_eq_true rfl), (Nat.le_of_ble_eq_true rfl)⟩ rfl hl.1 rfl (Nat.le_of_ble_eq_true rfl) dX11_builds_13 (fun v9 μ9 H locs hp hM hS => ?_)
    obtain ⟨u3, rfl, e9, h⟩ := hp
    rw [e9] at hM
    refine W.cs (cells' := 0) (slots' := 0) rfl rfl ?_
    refine lv_if_ne (tgt := 21) S.1 S.2.1 dX11_builds_16 (by decide) (fun c4 => ?_) (fun c4 => ?_)
    · have h := h.1 c4
      refine lv_aload_n S.1 S.2.1 dX11_builds_21 rfl (lv_at hl 0 rfl) ?_
      obtain ⟨k5, h⟩ := h
      refine mz_getr S hG hM cf_10 fd_321 tw_1483 dX11_builds_22 k5 ?_
      refine lv_iconst (v := (nI 0)) S.1 S.2.1 dX11_builds_25 (by decide) ?_
      obtain ⟨a6, e7, h⟩ := h
      refine mz_o1 e7 ?_
      obtain ⟨k8, h⟩ := h
      obtain ⟨b9, h⟩ := h
      refine mz_iald S hG hM dX11_builds_26 k8 b9 ?_
      refine lv_istore_n (lv' := [(3, .int (mA μ a6 (nI 0).toNatClampNeg)), (0, .ref o), (1, .int x1), (2, .int x2)]) S.1 S.2.1 dX11_builds_27 rfl hl (by decide) rfl (fun ls hl => ?_)
      refine lv_iload_n S.1 S.2.1 dX11_builds_28 rfl (lv_at hl 0 rfl) ?_
      refine lv_bipush (v := (nI 6)) S.1 S.2.1 dX11_builds_29 (by decide) ?_
      refine lv_icmp_ne (tgt := 36) S.1 S.2.1 dX11_builds_31 (by decide) (fun c10 => ?_) (fun c10 => ?_)
      · have h := h.1 c10
        refine lv_iconst (v := (nI 0)) S.1 S.2.1 dX11_builds_36 (by decide) ?_
        refine lv_istore (lv' := [(4, .int (nI 0)), (3, .int (mA μ a6 (nI 0).toNatClampNeg)), (0, .ref o), (1, .int x1), (2, .int x2)]) S.1 S.2.1 dX11_builds_37 hl (by decide) rfl (fun ls hl => ?_)
        obtain ⟨n9, h⟩ := h
        exact hB39  n9 x1 x2 (mA μ a6 (nI 0).toNatClampNeg) (nI 0) μ H locs ls hM hS (lv_sub hl [2, 3, 4, 1, 0] rfl) h
      · have h := h.2 c10
        refine lv_iconst (v := (nI 2)) S.1 S.2.1 dX11_builds_34 (by decide) ?_
        exact mz_iret S hr hlk hM hS rfl (Nat.le_of_ble_eq_true rfl) (Nat.le_of_ble_eq_true rfl) dX11_builds_35 ⟨_, rfl, h⟩
    · have h := h.2 c4
      exact hB19  μ H locs ls hM hS (lv_sub hl [0] rfl) h
set_option maxRecDepth 100000 in
set_option maxHeartbeats 4000000 in
theorem c_X11_hires {l : Launch} {G : mgT} {μ : mmT} {o : Nat} {Q : Int32 → mmT → Prop} (h : w_X11_hires G μ o Q) : MC G l yX11_hires cX11_hires 2 (some .int) { frames := 1, cells := 0, slots := 0, locals := 21 } [.ref o] μ (pI Q) := by
  refine mz_MC (by decide +kernel) (Nat.le_of_ble_eq_true rfl) (fun p e s m args below meth c S hG hr hlk hnm => ?_)
  intro H locs ls hM hS hl
  have hl : lv_has ls 2 [(0, .ref o)] := hl
  unfold w_X11_hires at h
  refine lv_aload_n S.1 S.2.1 dX11_hires_0 rfl (lv_at hl 0 rfl) ?_
  obtain ⟨k1, h⟩ := h
  refine mz_getr S hG hM cf_10 fd_321 tw_1483 dX11_hires_1 k1 ?_
  refine lv_iconst (v := (nI 1)) S.1 S.2.1 dX11_hires_4 (by decide) ?_
  obtain ⟨a2, e3, h⟩ := h
  refine mz_o1 e3 ?_
  obtain ⟨k4, h⟩ := h
  obtain ⟨b5, h⟩ := h
  refine mz_iald S hG hM dX11_hires_5 k4 b5 ?_
  refine lv_istore_n (lv' := [(1, .int (mA μ a2 (nI 1).toNatClampNeg)), (0, .ref o)]) S.1 S.2.1 dX11_hires_6 rfl hl (by decide) rfl (fun ls hl => ?_)
  refine lv_iload_n S.1 S.2.1 dX11_hires_7 rfl (lv_at hl 0 rfl) ?_
  refine lv_iconst (v := (nI 4)) S.1 S.2.1 dX11_hires_8 (by decide) ?_
  refine lv_icmp_ne (tgt := 14) S.1 S.2.1 dX11_hires_9 (by decide) (fun c6 => ?_) (fun c6 => ?_)
  · have h := h.1 c6
    refine lv_aload_n S.1 S.2.1 dX11_hires_14 rfl (lv_at hl 1 rfl) ?_
    refine mz_getr S hG hM cf_10 fd_321 tw_1483 dX11_hires_15 k1 ?_
    refine lv_sipush (v := (nI 138)) S.1 S.2.1 dX11_hires_18 (by decide) ?_
    refine lv_iconst (v := (nI 2)) S.1 S.2.1 dX11_hires_21 (by decide) ?_
    refine lv_iload_n S.1 S.2.1 dX11_hires_22 rfl (lv_at hl 0 rfl) ?_
    refine lv_imul S.1 S.2.1 dX11_hires_23 ?_
    refine lv_iadd S.1 S.2.1 dX11_hires_24 ?_
    refine lv_iconst (v := (nI 0)) S.1 S.2.1 dX11_hires_25 (by decide) ?_
    refine mz_o2 e3 ?_
    obtain ⟨b7, h⟩ := h
    refine mz_iast S hG hM hS dX11_hires_26 k4 b7 (fun H locs hM hS hz9 => ?_)
    refine lv_aload_n S.1 S.2.1 dX11_hires_27 rfl (lv_at hl 1 rfl) ?_
    refine mz_getr S hG hM cf_10 fd_321 tw_1483 dX11_hires_28 k1 ?_
    refine lv_sipush (v := (nI 138)) S.1 S.2.1 dX11_hires_31 (by decide) ?_
    refine lv_iconst (v := (nI 2)) S.1 S.2.1 dX11_hires_34 (by decide) ?_
    refine lv_iload_n S.1 S.2.1 dX11_hires_35 rfl (lv_at hl 0 rfl) ?_
    refine lv_imul S.1 S.2.1 dX11_hires_36 ?_
    refine lv_iadd S.1 S.2.1 dX11_hires_37 ?_
    refine lv_iconst (v := (nI 1)) S.1 S.2.1 dX11_hires_38 (by decide) ?_
    refine lv_iadd S.1 S.2.1 dX11_hires_39 ?_
    refine lv_iconst (v := (nI 0)) S.1 S.2.1 dX11_hires_40 (by decide) ?_
    obtain ⟨a8, e9, h⟩ := h
    refine mz_o2 e9 ?_
    obtain ⟨k10, h⟩ := h
    obtain ⟨b11, h⟩ := h
    refine mz_iast S hG hM hS dX11_hires_41 k10 b11 (fun H locs hM hS hz9 => ?_)
    refine lv_aload_n S.1 S.2.1 dX11_hires_42 rfl (lv_at hl 1 rfl) ?_
    refine mz_getr S hG hM cf_10 fd_321 tw_1483 dX11_hires_43 k1 ?_
    refine lv_iconst (v := (nI 1)) S.1 S.2.1 dX11_hires_46 (by decide) ?_
    refine lv_iload_n S.1 S.2.1 dX11_hires_47 rfl (lv_at hl 0 rfl) ?_
    refine lv_iconst (v := (nI 1)) S.1 S.2.1 dX11_hires_48 (by decide) ?_
    refine lv_iadd S.1 S.2.1 dX11_hires_49 ?_
    obtain ⟨a12, e13, h⟩ := h
    refine mz_o2 e13 ?_
    obtain ⟨k14, h⟩ := h
    obtain ⟨b15, h⟩ := h
    refine mz_iast S hG hM hS dX11_hires_50 k14 b15 (fun H locs hM hS hz9 => ?_)
    refine lv_aload_n S.1 S.2.1 dX11_hires_51 rfl (lv_at hl 1 rfl) ?_
    refine lv_iload_n S.1 S.2.1 dX11_hires_52 rfl (lv_at hl 0 rfl) ?_
    refine mz_V S hG hM hS cf_10 k1 (As := [.int (mA μ a2 (nI 1).toNatClampNeg)]) (rest := []) (c_X11_done h) yf_X11_done tw_1566 tw_1568 ts_25 ⟨Nat.le_of_ble_eq_true rfl, Nat.le_of_ble_eq_true rfl⟩ ⟨(Nat.le_of_ble_eq_true rfl), (Nat.le_of_ble_eq_true rfl)⟩ rfl hl.1 rfl (Nat.le_of_ble_eq_true rfl) dX11_hires_53 (fun v9 μ17 H locs hp hM hS => ?_)
    obtain ⟨u16, rfl, h⟩ := hp
    refine W.cs (cells' := 0) (slots' := 0) rfl rfl ?_
    exact mz_iret S hr hlk hM hS rfl (Nat.le_of_ble_eq_true rfl) (Nat.le_of_ble_eq_true rfl) dX11_hires_56 ⟨_, rfl, h⟩
  · have h := h.2 c6
    refine lv_iconst (v := (nI 1)) S.1 S.2.1 dX11_hires_12 (by decide) ?_
    exact mz_iret S hr hlk hM hS rfl (Nat.le_of_ble_eq_true rfl) (Nat.le_of_ble_eq_true rfl) dX11_hires_13 ⟨_, rfl, h⟩
set_option maxRecDepth 100000 in
set_option maxHeartbeats 4000000 in
theorem c_X11_publishes {l : Launch} {G : mgT} {μ : mmT} {o : Nat} {x1 : Int32} {x2 : Int32} {Q : Int32 → mmT → Prop} (h : w_X11_publishes G μ o x1 x2 Q) : MC G l yX11_publishes cX11_publishes 5 (some .int) { frames := 2, cells := 0, slots := 0, locals := 43 } [.ref o, .int x1, .int x2] μ (pI Q) := by
  refine mz_MC (by decide +kernel) (Nat.le_of_ble_eq_true rfl) (fun p e s m args below meth c S hG hr hlk hnm => ?_)
  have hB40 : ∀ (n : Nat) (x1 : Int32) (x2 : Int32) (x3 : Int32) (x4 : Int32) (μ : mmT) (H : Heap) (locs : List Loc) (ls : Array Slot), Mm G μ H → va_S (Ah G) s.heap H locs → lv_has ls 5 [(0, .ref o), (1, .int x1), (2, .int x2), (3, .int x3), (4, .int x4)] → w_X11_publishes_l40 G o Q  n x1 x2 x3 x4 μ → W p l e { frames := 2, cells := 0, slots := 0, locals := 43 } s m args below meth c H locs 0 0 (MQ below (mQ G (pI Q)) args s 0 0 (Ah G)) (F0 m 40 ls []) := by
    intro  n
    induction n with
    | zero =>
      intro x1 x2 x3 x4 μ H locs ls hM hS hl h
      exact False.elim h
    | succ n ih =>
      intro x1 x2 x3 x4 μ H locs ls hM hS hl h
      have h : w_X11_publishes_b40 G o Q  (w_X11_publishes_l40 G o Q  n) x1 x2 x3 x4 μ := h
      unfold w_X11_publishes_b40 at h
      refine lv_iload S.1 S.2.1 dX11_publishes_40 (lv_at hl 4 rfl) ?_
      refine lv_bipush (v := (nI 7)) S.1 S.2.1 dX11_publishes_42 (by decide) ?_
      refine lv_icmp_ge (tgt := 61) S.1 S.2.1 dX11_publishes_44 (by decide) (fun c11 => ?_) (fun c11 => ?_)
      · have h := h.1 c11
        refine lv_aload_n S.1 S.2.1 dX11_publishes_61 rfl (lv_at hl 0 rfl) ?_
        refine lv_iload_n S.1 S.2.1 dX11_publishes_62 rfl (lv_at hl 3 rfl) ?_
        refine lv_iconst (v := (nI 0)) S.1 S.2.1 dX11_publishes_63 (by decide) ?_
        refine lv_aload_n S.1 S.2.1 dX11_publishes_64 rfl (lv_at hl 0 rfl) ?_
        obtain ⟨k12, h⟩ := h
        refine mz_getr S hG hM cf_10 fd_321 tw_1483 dX11_publishes_65 k12 ?_
        refine lv_iconst (v := (nI 3)) S.1 S.2.1 dX11_publishes_68 (by decide) ?_
        obtain ⟨a13, e14, h⟩ := h
        refine mz_o1 e14 ?_
        obtain ⟨k15, h⟩ := h
        obtain ⟨b16, h⟩ := h
        refine mz_iald S hG hM dX11_publishes_69 k15 b16 ?_
        refine mz_V S hG hM hS cf_10 k12 (As := [.int x3, .int (nI 0), .int (mA μ a13 (nI 3).toNatClampNeg)]) (rest := []) (c_X11_sets h) yf_X11_sets tw_1602 tw_1604 ts_32 ⟨Nat.le_of_ble_eq_true rfl, Nat.le_of_ble_eq_true rfl⟩ ⟨(Nat.le_of_ble_eq_true rfl), (Nat.le_of_ble_eq_true rfl)⟩ rfl hl.1 rfl (Nat.le_of_ble_eq_true rfl) dX11_publishes_70 (fun v9 μ17 H locs hp hM hS => ?_)
        obtain ⟨rfl, h⟩ := hp
        refine W.cs (cells' := 0) (slots' := 0) rfl rfl ?_
        refine lv_aload_n S.1 S.2.1 dX11_publishes_73 rfl (lv_at hl 0 rfl) ?_
        refine lv_iload_n S.1 S.2.1 dX11_publishes_74 rfl (lv_at hl 3 rfl) ?_
        refine lv_iconst (v := (nI 1)) S.1 S.2.1 dX11_publishes_75 (by decide) ?_
        refine lv_iload_n S.1 S.2.1 dX11_publishes_76 rfl (lv_at hl 1 rfl) ?_
        obtain ⟨k18, h⟩ := h
        refine mz_V S hG hM hS cf_10 k18 (As := [.int x3, .int (nI 1), .int x1]) (rest := []) (c_X11_sets h) yf_X11_sets tw_1602 tw_1604 ts_32 ⟨Nat.le_of_ble_eq_true rfl, Nat.le_of_ble_eq_true rfl⟩ ⟨(Nat.le_of_ble_eq_true rfl), (Nat.le_of_ble_eq_true rfl)⟩ rfl hl.1 rfl (Nat.le_of_ble_eq_true rfl) dX11_publishes_77 (fun v9 μ19 H locs hp hM hS => ?_)
        obtain ⟨rfl, h⟩ := hp
        refine W.cs (cells' := 0) (slots' := 0) rfl rfl ?_
        refine lv_aload_n S.1 S.2.1 dX11_publishes_80 rfl (lv_at hl 0 rfl) ?_
        refine lv_iload_n S.1 S.2.1 dX11_publishes_81 rfl (lv_at hl 3 rfl) ?_
        refine lv_iconst (v := (nI 2)) S.1 S.2.1 dX11_publishes_82 (by decide) ?_
        refine lv_iload_n S.1 S.2.1 dX11_publishes_83 rfl (lv_at hl 2 rfl) ?_
        obtain ⟨k20, h⟩ := h
        refine mz_V S hG hM hS cf_10 k20 (As := [.int x3, .int (nI 2), .int x2]) (rest := []) (c_X11_sets h) yf_X11_sets tw_1602 tw_1604 ts_32 ⟨Nat.le_of_ble_eq_true rfl, Nat.le_of_ble_eq_true rfl⟩ ⟨(Nat.le_of_ble_eq_true rfl), (Nat.le_of_ble_eq_true rfl)⟩ rfl hl.1 rfl (Nat.le_of_ble_eq_true rfl) dX11_publishes_84 (fun v9 μ21 H locs hp hM hS => ?_)
        obtain ⟨rfl, h⟩ := hp
        refine W.cs (cells' := 0) (slots' := 0) rfl rfl ?_
        refine lv_aload_n S.1 S.2.1 dX11_publishes_87 rfl (lv_at hl 0 rfl) ?_
        refine lv_iload_n S.1 S.2.1 dX11_publishes_88 rfl (lv_at hl 3 rfl) ?_
        refine lv_iconst (v := (nI 4)) S.1 S.2.1 dX11_publishes_89 (by decide) ?_
        refine lv_bipush (v := (nI 119)) S.1 S.2.1 dX11_publishes_90 (by decide) ?_
        obtain ⟨k22, h⟩ := h
        refine mz_V S hG hM hS cf_10 k22 (As := [.int x3, .int (nI 4), .int (nI 119)]) (rest := []) (c_X11_sets h) yf_X11_sets tw_1602 tw_1604 ts_32 ⟨Nat.le_of_ble_eq_true rfl, Nat.le_of_ble_eq_true rfl⟩ ⟨(Nat.le_of_ble_eq_true rfl), (Nat.le_of_ble_eq_true rfl)⟩ rfl hl.1 rfl (Nat.le_of_ble_eq_true rfl) dX11_publishes_92 (fun v9 μ23 H locs hp hM hS => ?_)
        obtain ⟨rfl, h⟩ := hp
        refine W.cs (cells' := 0) (slots' := 0) rfl rfl ?_
        refine lv_aload_n S.1 S.2.1 dX11_publishes_95 rfl (lv_at hl 0 rfl) ?_
        obtain ⟨k24, h⟩ := h
        refine mz_getr S hG hM cf_10 fd_321 tw_1483 dX11_publishes_96 k24 ?_
        refine lv_iconst (v := (nI 2)) S.1 S.2.1 dX11_publishes_99 (by decide) ?_
        refine lv_iload_n S.1 S.2.1 dX11_publishes_100 rfl (lv_at hl 3 rfl) ?_
        refine lv_iconst (v := (nI 1)) S.1 S.2.1 dX11_publishes_101 (by decide) ?_
        refine lv_iadd S.1 S.2.1 dX11_publishes_102 ?_
        obtain ⟨a25, e26, h⟩ := h
        refine mz_o2 e26 ?_
        obtain ⟨k27, h⟩ := h
        obtain ⟨b28, h⟩ := h
        refine mz_iast S hG hM hS dX11_publishes_103 k27 b28 (fun H locs hM hS hz9 => ?_)
        refine lv_aload_n S.1 S.2.1 dX11_publishes_104 rfl (lv_at hl 0 rfl) ?_
        refine mz_getr S hG hM cf_10 fd_321 tw_1483 dX11_publishes_105 k24 ?_
        refine lv_iconst (v := (nI 3)) S.1 S.2.1 dX11_publishes_108 (by decide) ?_
        refine lv_dup2_11 S.1 S.2.1 dX11_publishes_109 rfl (mz_cat _) ?_
        obtain ⟨a29, e30, h⟩ := h
        refine mz_o1 e30 ?_
        obtain ⟨k31, h⟩ := h
        obtain ⟨b32, h⟩ := h
        refine mz_iald S hG hM dX11_publishes_110 k31 b32 ?_
        refine lv_iconst (v := (nI 1)) S.1 S.2.1 dX11_publishes_111 (by decide) ?_
        refine lv_iadd S.1 S.2.1 dX11_publishes_112 ?_
        refine mz_o2 e30 ?_
        obtain ⟨b33, h⟩ := h
        refine mz_iast S hG hM hS dX11_publishes_113 k31 b33 (fun H locs hM hS hz9 => ?_)
        refine lv_aload_n S.1 S.2.1 dX11_publishes_114 rfl (lv_at hl 0 rfl) ?_
        refine lv_aload_n S.1 S.2.1 dX11_publishes_115 rfl (lv_at hl 0 rfl) ?_
        refine mz_getr S hG hM cf_10 fd_321 tw_1483 dX11_publishes_116 k24 ?_
        refine lv_iconst (v := (nI 3)) S.1 S.2.1 dX11_publishes_119 (by decide) ?_
        obtain ⟨a34, e35, h⟩ := h
        refine mz_o1 e35 ?_
        obtain ⟨k36, h⟩ := h
        obtain ⟨b37, h⟩ := h
        refine mz_iald S hG hM dX11_publishes_120 k36 b37 ?_
        refine lv_iconst (v := (nI 1)) S.1 S.2.1 dX11_publishes_121 (by decide) ?_
        refine lv_isub S.1 S.2.1 dX11_publishes_122 ?_
        refine mz_V S hG hM hS cf_10 k24 (As := [.int ((mA (sA (sA μ23 a25 (nI 2).toNatClampNeg (x3 + (nI 1))) a29 (nI 3).toNatClampNeg ((mA (sA μ23 a25 (nI 2).toNatClampNeg (x3 + (nI 1))) a29 (nI 3).toNatClampNeg) + (nI 1))) a34 (nI 3).toNatClampNeg) - (nI 1))]) (rest := []) (c_X11_done h) yf_X11_done tw_1566 tw_1568 ts_25 ⟨Nat.le_of_ble_eq_true rfl, Nat.le_of_ble_eq_true rfl⟩ ⟨(Nat.le_of_ble_eq_true rfl), (Nat.le_of_ble_eq_true rfl)⟩ rfl hl.1 rfl (Nat.le_of_ble_eq_true rfl) dX11_publishes_123 (fun v9 μ39 H locs hp hM hS => ?_)
        obtain ⟨u38, rfl, h⟩ := hp
        refine W.cs (cells' := 0) (slots' := 0) rfl rfl ?_
        exact mz_iret S hr hlk hM hS rfl (Nat.le_of_ble_eq_true rfl) (Nat.le_of_ble_eq_true rfl) dX11_publishes_126 ⟨_, rfl, h⟩
      · have h := h.2 c11
        refine lv_aload_n S.1 S.2.1 dX11_publishes_47 rfl (lv_at hl 0 rfl) ?_
        refine lv_iload_n S.1 S.2.1 dX11_publishes_48 rfl (lv_at hl 3 rfl) ?_
        refine lv_iload S.1 S.2.1 dX11_publishes_49 (lv_at hl 4 rfl) ?_
        refine lv_iconst (v := (nI 0)) S.1 S.2.1 dX11_publishes_51 (by decide) ?_
        obtain ⟨k40, h⟩ := h
        refine mz_V S hG hM hS cf_10 k40 (As := [.int x3, .int x4, .int (nI 0)]) (rest := []) (c_X11_sets h) yf_X11_sets tw_1602 tw_1604 ts_32 ⟨Nat.le_of_ble_eq_true rfl, Nat.le_of_ble_eq_true rfl⟩ ⟨(Nat.le_of_ble_eq_true rfl), (Nat.le_of_ble_eq_true rfl)⟩ rfl hl.1 rfl (Nat.le_of_ble_eq_true rfl) dX11_publishes_52 (fun v9 μ41 H locs hp hM hS => ?_)
        obtain ⟨rfl, h⟩ := hp
        refine W.cs (cells' := 0) (slots' := 0) rfl rfl ?_
        refine lv_iinc (v := (x4 + nI 1)) (lv' := [(4, .int (x4 + nI 1)), (0, .ref o), (1, .int x1), (2, .int x2), (3, .int x3)]) S.1 S.2.1 dX11_publishes_55 hl (k := 4) rfl rfl (by decide) rfl (fun ls hl => ?_)
        refine lv_goto (tgt := 40) S.1 S.2.1 dX11_publishes_58 (by decide) ?_
        exact ih x1 x2 x3 (x4 + nI 1) μ41 H locs ls hM hS (lv_sub hl [1, 2, 3, 4, 0] rfl) h
  intro H locs ls hM hS hl
  have hl : lv_has ls 5 [(0, .ref o), (1, .int x1), (2, .int x2)] := hl
  unfold w_X11_publishes at h
  refine lv_aload_n S.1 S.2.1 dX11_publishes_0 rfl (lv_at hl 0 rfl) ?_
  refine lv_iload_n S.1 S.2.1 dX11_publishes_1 rfl (lv_at hl 1 rfl) ?_
  obtain ⟨k1, h⟩ := h
  refine mz_V S hG hM hS cf_10 k1 (As := [.int x1]) (rest := []) (c_X11_isNest h) yf_X11_isNest tw_1598 tw_1600 ts_31 ⟨Nat.le_of_ble_eq_true rfl, Nat.le_of_ble_eq_true rfl⟩ ⟨(Nat.le_of_ble_eq_true rfl), (Nat.le_of_ble_eq_true rfl)⟩ rfl hl.1 rfl (Nat.le_of_ble_eq_true rfl) dX11_publishes_2 (fun v9 μ9 H locs hp hM hS => ?_)
  obtain ⟨u2, rfl, e9, h⟩ := hp
  rw [e9] at hM
  refine W.cs (cells' := 0) (slots' := 0) rfl rfl ?_
  refine lv_if_ne (tgt := 10) S.1 S.2.1 dX11_publishes_5 (by decide) (fun c3 => ?_) (fun c3 => ?_)
  · have h := h.1 c3
    refine lv_iload_n S.1 S.2.1 dX11_publishes_10 rfl (lv_at hl 2 rfl) ?_
    refine lv_iconst (v := (nI 0)) S.1 S.2.1 dX11_publishes_11 (by decide) ?_
    refine lv_bipush (v := (nI 99)) S.1 S.2.1 dX11_publishes_12 (by decide) ?_
    refine mz_S S hG hM hS (As := [.int x2, .int (nI 0), .int (nI 99)]) (rest := []) (c_X11_in h) yf_X11_in tw_1559 tw_1560 ⟨Nat.le_of_ble_eq_true rfl, Nat.le_of_ble_eq_true rfl⟩ ⟨(Nat.le_of_ble_eq_true rfl), (Nat.le_of_ble_eq_true rfl)⟩ rfl hl.1 rfl (Nat.le_of_ble_eq_true rfl) dX11_publishes_14 (fun v9 μ9 H locs hp hM hS => ?_)
    obtain ⟨u4, rfl, e9, h⟩ := hp
    rw [e9] at hM
    refine W.cs (cells' := 0) (slots' := 0) rfl rfl ?_
    refine lv_if_ne (tgt := 22) S.1 S.2.1 dX11_publishes_17 (by decide) (fun c5 => ?_) (fun c5 => ?_)
    · have h := h.1 c5
      refine lv_aload_n S.1 S.2.1 dX11_publishes_22 rfl (lv_at hl 0 rfl) ?_
      refine mz_getr S hG hM cf_10 fd_321 tw_1483 dX11_publishes_23 k1 ?_
      refine lv_iconst (v := (nI 2)) S.1 S.2.1 dX11_publishes_26 (by decide) ?_
      obtain ⟨a6, e7, h⟩ := h
      refine mz_o1 e7 ?_
      obtain ⟨k8, h⟩ := h
      obtain ⟨b9, h⟩ := h
      refine mz_iald S hG hM dX11_publishes_27 k8 b9 ?_
      refine lv_istore_n (lv' := [(3, .int (mA μ a6 (nI 2).toNatClampNeg)), (0, .ref o), (1, .int x1), (2, .int x2)]) S.1 S.2.1 dX11_publishes_28 rfl hl (by decide) rfl (fun ls hl => ?_)
      refine lv_iload_n S.1 S.2.1 dX11_publishes_29 rfl (lv_at hl 0 rfl) ?_
      refine lv_bipush (v := (nI 16)) S.1 S.2.1 dX11_publishes_30 (by decide) ?_
      refine lv_icmp_ne (tgt := 37) S.1 S.2.1 dX11_publishes_32 (by decide) (fun c10 => ?_) (fun c10 => ?_)
      · have h := h.1 c10
        refine lv_iconst (v := (nI 0)) S.1 S.2.1 dX11_publishes_37 (by decide) ?_
        refine lv_istore (lv' := [(4, .int (nI 0)), (3, .int (mA μ a6 (nI 2).toNatClampNeg)), (0, .ref o), (1, .int x1), (2, .int x2)]) S.1 S.2.1 dX11_publishes_38 hl (by decide) rfl (fun ls hl => ?_)
        obtain ⟨n9, h⟩ := h
        exact hB40  n9 x1 x2 (mA μ a6 (nI 2).toNatClampNeg) (nI 0) μ H locs ls hM hS (lv_sub hl [2, 3, 4, 1, 0] rfl) h
      · have h := h.2 c10
        refine lv_iconst (v := (nI 3)) S.1 S.2.1 dX11_publishes_35 (by decide) ?_
        exact mz_iret S hr hlk hM hS rfl (Nat.le_of_ble_eq_true rfl) (Nat.le_of_ble_eq_true rfl) dX11_publishes_36 ⟨_, rfl, h⟩
    · have h := h.2 c5
      refine lv_iconst (v := (nI 2)) S.1 S.2.1 dX11_publishes_20 (by decide) ?_
      exact mz_iret S hr hlk hM hS rfl (Nat.le_of_ble_eq_true rfl) (Nat.le_of_ble_eq_true rfl) dX11_publishes_21 ⟨_, rfl, h⟩
  · have h := h.2 c3
    refine lv_iconst (v := (nI 1)) S.1 S.2.1 dX11_publishes_8 (by decide) ?_
    exact mz_iret S hr hlk hM hS rfl (Nat.le_of_ble_eq_true rfl) (Nat.le_of_ble_eq_true rfl) dX11_publishes_9 ⟨_, rfl, h⟩
set_option maxRecDepth 100000 in
set_option maxHeartbeats 4000000 in
theorem c_X11_reads {l : Launch} {G : mgT} {μ : mmT} {o : Nat} {x1 : Int32} {Q : Int32 → mmT → Prop} (h : w_X11_reads G μ o x1 Q) : MC G l yX11_reads cX11_reads 5 (some .int) { frames := 2, cells := 0, slots := 0, locals := 44 } [.ref o, .int x1] μ (pI Q) := by
  refine mz_MC (by decide +kernel) (Nat.le_of_ble_eq_true rfl) (fun p e s m args below meth c S hG hr hlk hnm => ?_)
  have hB33 : ∀ (n : Nat) (x1 : Int32) (x2 : Int32) (x3 : Int32) (x4 : Int32) (μ : mmT) (H : Heap) (locs : List Loc) (ls : Array Slot), Mm G μ H → va_S (Ah G) s.heap H locs → lv_has ls 5 [(0, .ref o), (1, .int x1), (2, .int x2), (3, .int x3), (4, .int x4)] → w_X11_reads_l33 G o Q  n x1 x2 x3 x4 μ → W p l e { frames := 2, cells := 0, slots := 0, locals := 44 } s m args below meth c H locs 0 0 (MQ below (mQ G (pI Q)) args s 0 0 (Ah G)) (F0 m 33 ls []) := by
    intro  n
    induction n with
    | zero =>
      intro x1 x2 x3 x4 μ H locs ls hM hS hl h
      exact False.elim h
    | succ n ih =>
      intro x1 x2 x3 x4 μ H locs ls hM hS hl h
      have h : w_X11_reads_b33 G o Q  (w_X11_reads_l33 G o Q  n) x1 x2 x3 x4 μ := h
      unfold w_X11_reads_b33 at h
      refine lv_iload S.1 S.2.1 dX11_reads_33 (lv_at hl 4 rfl) ?_
      refine lv_iload_n S.1 S.2.1 dX11_reads_35 rfl (lv_at hl 2 rfl) ?_
      refine lv_iconst (v := (nI 1)) S.1 S.2.1 dX11_reads_36 (by decide) ?_
      refine lv_isub S.1 S.2.1 dX11_reads_37 ?_
      refine lv_icmp_ge (tgt := 67) S.1 S.2.1 dX11_reads_38 (by decide) (fun c7 => ?_) (fun c7 => ?_)
      · have h := h.1 c7
        refine lv_aload_n S.1 S.2.1 dX11_reads_67 rfl (lv_at hl 0 rfl) ?_
        refine lv_iload_n S.1 S.2.1 dX11_reads_68 rfl (lv_at hl 1 rfl) ?_
        refine lv_iconst (v := (nI 3)) S.1 S.2.1 dX11_reads_69 (by decide) ?_
        refine lv_iload_n S.1 S.2.1 dX11_reads_70 rfl (lv_at hl 2 rfl) ?_
        refine lv_iadd S.1 S.2.1 dX11_reads_71 ?_
        refine lv_iconst (v := (nI 1)) S.1 S.2.1 dX11_reads_72 (by decide) ?_
        refine lv_isub S.1 S.2.1 dX11_reads_73 ?_
        refine lv_iconst (v := (nI 0)) S.1 S.2.1 dX11_reads_74 (by decide) ?_
        obtain ⟨k8, h⟩ := h
        refine mz_V S hG hM hS cf_10 k8 (As := [.int x1, .int (((nI 3) + x2) - (nI 1)), .int (nI 0)]) (rest := []) (c_X11_setsNest h) yf_X11_setsNest tw_1562 tw_1564 ts_24 ⟨Nat.le_of_ble_eq_true rfl, Nat.le_of_ble_eq_true rfl⟩ ⟨(Nat.le_of_ble_eq_true rfl), (Nat.le_of_ble_eq_true rfl)⟩ rfl hl.1 rfl (Nat.le_of_ble_eq_true rfl) dX11_reads_75 (fun v9 μ9 H locs hp hM hS => ?_)
        obtain ⟨rfl, h⟩ := hp
        refine W.cs (cells' := 0) (slots' := 0) rfl rfl ?_
        refine lv_aload_n S.1 S.2.1 dX11_reads_78 rfl (lv_at hl 0 rfl) ?_
        refine lv_iload_n S.1 S.2.1 dX11_reads_79 rfl (lv_at hl 1 rfl) ?_
        refine lv_iconst (v := (nI 2)) S.1 S.2.1 dX11_reads_80 (by decide) ?_
        refine lv_iload_n S.1 S.2.1 dX11_reads_81 rfl (lv_at hl 2 rfl) ?_
        refine lv_iconst (v := (nI 1)) S.1 S.2.1 dX11_reads_82 (by decide) ?_
        refine lv_isub S.1 S.2.1 dX11_reads_83 ?_
        obtain ⟨k10, h⟩ := h
        refine mz_V S hG hM hS cf_10 k10 (As := [.int x1, .int (nI 2), .int (x2 - (nI 1))]) (rest := []) (c_X11_setsNest h) yf_X11_setsNest tw_1562 tw_1564 ts_24 ⟨Nat.le_of_ble_eq_true rfl, Nat.le_of_ble_eq_true rfl⟩ ⟨(Nat.le_of_ble_eq_true rfl), (Nat.le_of_ble_eq_true rfl)⟩ rfl hl.1 rfl (Nat.le_of_ble_eq_true rfl) dX11_reads_84 (fun v9 μ11 H locs hp hM hS => ?_)
        obtain ⟨rfl, h⟩ := hp
        refine W.cs (cells' := 0) (slots' := 0) rfl rfl ?_
        refine lv_aload_n S.1 S.2.1 dX11_reads_87 rfl (lv_at hl 0 rfl) ?_
        obtain ⟨k12, h⟩ := h
        refine mz_getr S hG hM cf_10 fd_321 tw_1483 dX11_reads_88 k12 ?_
        refine lv_bipush (v := (nI 7)) S.1 S.2.1 dX11_reads_91 (by decide) ?_
        refine lv_dup2_11 S.1 S.2.1 dX11_reads_93 rfl (mz_cat _) ?_
        obtain ⟨a13, e14, h⟩ := h
        refine mz_o1 e14 ?_
        obtain ⟨k15, h⟩ := h
        obtain ⟨b16, h⟩ := h
        refine mz_iald S hG hM dX11_reads_94 k15 b16 ?_
        refine lv_iconst (v := (nI 1)) S.1 S.2.1 dX11_reads_95 (by decide) ?_
        refine lv_iadd S.1 S.2.1 dX11_reads_96 ?_
        refine mz_o2 e14 ?_
        obtain ⟨b17, h⟩ := h
        refine mz_iast S hG hM hS dX11_reads_97 k15 b17 (fun H locs hM hS hz9 => ?_)
        refine lv_aload_n S.1 S.2.1 dX11_reads_98 rfl (lv_at hl 0 rfl) ?_
        refine lv_aload_n S.1 S.2.1 dX11_reads_99 rfl (lv_at hl 0 rfl) ?_
        refine lv_iload_n S.1 S.2.1 dX11_reads_100 rfl (lv_at hl 3 rfl) ?_
        refine mz_V S hG hM hS cf_10 k12 (As := [.int x3]) (rest := [.ref o]) (c_X11_placeOf h) yf_X11_placeOf tw_1618 tw_1620 ts_35 ⟨Nat.le_of_ble_eq_true rfl, Nat.le_of_ble_eq_true rfl⟩ ⟨(Nat.le_of_ble_eq_true rfl), (Nat.le_of_ble_eq_true rfl)⟩ rfl hl.1 rfl (Nat.le_of_ble_eq_true rfl) dX11_reads_101 (fun v9 μ9 H locs hp hM hS => ?_)
        obtain ⟨u18, rfl, e9, h⟩ := hp
        rw [e9] at hM
        refine W.cs (cells' := 0) (slots' := 0) rfl rfl ?_
        refine mz_V S hG hM hS cf_10 k12 (As := [.int u18]) (rest := []) (c_X11_ceases h) yf_X11_ceases tw_1626 tw_1628 ts_37 ⟨Nat.le_of_ble_eq_true rfl, Nat.le_of_ble_eq_true rfl⟩ ⟨(Nat.le_of_ble_eq_true rfl), (Nat.le_of_ble_eq_true rfl)⟩ rfl hl.1 rfl (Nat.le_of_ble_eq_true rfl) dX11_reads_104 (fun v9 μ19 H locs hp hM hS => ?_)
        obtain ⟨rfl, h⟩ := hp
        refine W.cs (cells' := 0) (slots' := 0) rfl rfl ?_
        refine lv_aload_n S.1 S.2.1 dX11_reads_107 rfl (lv_at hl 0 rfl) ?_
        refine lv_iload_n S.1 S.2.1 dX11_reads_108 rfl (lv_at hl 3 rfl) ?_
        obtain ⟨k20, h⟩ := h
        refine mz_V S hG hM hS cf_10 k20 (As := [.int x3]) (rest := []) (c_X11_done h) yf_X11_done tw_1566 tw_1568 ts_25 ⟨Nat.le_of_ble_eq_true rfl, Nat.le_of_ble_eq_true rfl⟩ ⟨(Nat.le_of_ble_eq_true rfl), (Nat.le_of_ble_eq_true rfl)⟩ rfl hl.1 rfl (Nat.le_of_ble_eq_true rfl) dX11_reads_109 (fun v9 μ22 H locs hp hM hS => ?_)
        obtain ⟨u21, rfl, h⟩ := hp
        refine W.cs (cells' := 0) (slots' := 0) rfl rfl ?_
        exact mz_iret S hr hlk hM hS rfl (Nat.le_of_ble_eq_true rfl) (Nat.le_of_ble_eq_true rfl) dX11_reads_112 ⟨_, rfl, h⟩
      · have h := h.2 c7
        refine lv_aload_n S.1 S.2.1 dX11_reads_41 rfl (lv_at hl 0 rfl) ?_
        refine lv_iload_n S.1 S.2.1 dX11_reads_42 rfl (lv_at hl 1 rfl) ?_
        refine lv_iconst (v := (nI 3)) S.1 S.2.1 dX11_reads_43 (by decide) ?_
        refine lv_iload S.1 S.2.1 dX11_reads_44 (lv_at hl 4 rfl) ?_
        refine lv_iadd S.1 S.2.1 dX11_reads_46 ?_
        refine lv_aload_n S.1 S.2.1 dX11_reads_47 rfl (lv_at hl 0 rfl) ?_
        refine lv_iload_n S.1 S.2.1 dX11_reads_48 rfl (lv_at hl 1 rfl) ?_
        refine lv_iconst (v := (nI 3)) S.1 S.2.1 dX11_reads_49 (by decide) ?_
        refine lv_iload S.1 S.2.1 dX11_reads_50 (lv_at hl 4 rfl) ?_
        refine lv_iadd S.1 S.2.1 dX11_reads_52 ?_
        refine lv_iconst (v := (nI 1)) S.1 S.2.1 dX11_reads_53 (by decide) ?_
        refine lv_iadd S.1 S.2.1 dX11_reads_54 ?_
        obtain ⟨k23, h⟩ := h
        refine mz_V S hG hM hS cf_10 k23 (As := [.int x1, .int (((nI 3) + x4) + (nI 1))]) (rest := [.int ((nI 3) + x4), .int x1, .ref o]) (c_X11_nest h) yf_X11_nest tw_1614 tw_1616 ts_34 ⟨Nat.le_of_ble_eq_true rfl, Nat.le_of_ble_eq_true rfl⟩ ⟨(Nat.le_of_ble_eq_true rfl), (Nat.le_of_ble_eq_true rfl)⟩ rfl hl.1 rfl (Nat.le_of_ble_eq_true rfl) dX11_reads_55 (fun v9 μ9 H locs hp hM hS => ?_)
        obtain ⟨u24, rfl, e9, h⟩ := hp
        rw [e9] at hM
        refine W.cs (cells' := 0) (slots' := 0) rfl rfl ?_
        refine mz_V S hG hM hS cf_10 k23 (As := [.int x1, .int ((nI 3) + x4), .int u24]) (rest := []) (c_X11_setsNest h) yf_X11_setsNest tw_1562 tw_1564 ts_24 ⟨Nat.le_of_ble_eq_true rfl, Nat.le_of_ble_eq_true rfl⟩ ⟨(Nat.le_of_ble_eq_true rfl), (Nat.le_of_ble_eq_true rfl)⟩ rfl hl.1 rfl (Nat.le_of_ble_eq_true rfl) dX11_reads_58 (fun v9 μ25 H locs hp hM hS => ?_)
        obtain ⟨rfl, h⟩ := hp
        refine W.cs (cells' := 0) (slots' := 0) rfl rfl ?_
        refine lv_iinc (v := (x4 + nI 1)) (lv' := [(4, .int (x4 + nI 1)), (0, .ref o), (1, .int x1), (2, .int x2), (3, .int x3)]) S.1 S.2.1 dX11_reads_61 hl (k := 4) rfl rfl (by decide) rfl (fun ls hl => ?_)
        refine lv_goto (tgt := 33) S.1 S.2.1 dX11_reads_64 (by decide) ?_
        exact ih x1 x2 x3 (x4 + nI 1) μ25 H locs ls hM hS (lv_sub hl [1, 2, 3, 4, 0] rfl) h
  intro H locs ls hM hS hl
  have hl : lv_has ls 5 [(0, .ref o), (1, .int x1)] := hl
  unfold w_X11_reads at h
  refine lv_aload_n S.1 S.2.1 dX11_reads_0 rfl (lv_at hl 0 rfl) ?_
  refine lv_iload_n S.1 S.2.1 dX11_reads_1 rfl (lv_at hl 1 rfl) ?_
  obtain ⟨k1, h⟩ := h
  refine mz_V S hG hM hS cf_10 k1 (As := [.int x1]) (rest := []) (c_X11_isNest h) yf_X11_isNest tw_1598 tw_1600 ts_31 ⟨Nat.le_of_ble_eq_true rfl, Nat.le_of_ble_eq_true rfl⟩ ⟨(Nat.le_of_ble_eq_true rfl), (Nat.le_of_ble_eq_true rfl)⟩ rfl hl.1 rfl (Nat.le_of_ble_eq_true rfl) dX11_reads_2 (fun v9 μ9 H locs hp hM hS => ?_)
  obtain ⟨u2, rfl, e9, h⟩ := hp
  rw [e9] at hM
  refine W.cs (cells' := 0) (slots' := 0) rfl rfl ?_
  refine lv_if_ne (tgt := 10) S.1 S.2.1 dX11_reads_5 (by decide) (fun c3 => ?_) (fun c3 => ?_)
  · have h := h.1 c3
    refine lv_aload_n S.1 S.2.1 dX11_reads_10 rfl (lv_at hl 0 rfl) ?_
    refine lv_iload_n S.1 S.2.1 dX11_reads_11 rfl (lv_at hl 1 rfl) ?_
    refine lv_iconst (v := (nI 2)) S.1 S.2.1 dX11_reads_12 (by decide) ?_
    refine mz_V S hG hM hS cf_10 k1 (As := [.int x1, .int (nI 2)]) (rest := []) (c_X11_nest h) yf_X11_nest tw_1614 tw_1616 ts_34 ⟨Nat.le_of_ble_eq_true rfl, Nat.le_of_ble_eq_true rfl⟩ ⟨(Nat.le_of_ble_eq_true rfl), (Nat.le_of_ble_eq_true rfl)⟩ rfl hl.1 rfl (Nat.le_of_ble_eq_true rfl) dX11_reads_13 (fun v9 μ9 H locs hp hM hS => ?_)
    obtain ⟨u4, rfl, e9, h⟩ := hp
    rw [e9] at hM
    refine W.cs (cells' := 0) (slots' := 0) rfl rfl ?_
    refine lv_istore_n (lv' := [(2, .int u4), (0, .ref o), (1, .int x1)]) S.1 S.2.1 dX11_reads_16 rfl hl (by decide) rfl (fun ls hl => ?_)
    refine lv_iload_n S.1 S.2.1 dX11_reads_17 rfl (lv_at hl 0 rfl) ?_
    refine lv_if_ne (tgt := 23) S.1 S.2.1 dX11_reads_18 (by decide) (fun c5 => ?_) (fun c5 => ?_)
    · have h := h.1 c5
      refine lv_aload_n S.1 S.2.1 dX11_reads_23 rfl (lv_at hl 1 rfl) ?_
      refine lv_iload_n S.1 S.2.1 dX11_reads_24 rfl (lv_at hl 2 rfl) ?_
      refine lv_iconst (v := (nI 3)) S.1 S.2.1 dX11_reads_25 (by decide) ?_
      refine mz_V S hG hM hS cf_10 k1 (As := [.int x1, .int (nI 3)]) (rest := []) (c_X11_nest h) yf_X11_nest tw_1614 tw_1616 ts_34 ⟨Nat.le_of_ble_eq_true rfl, Nat.le_of_ble_eq_true rfl⟩ ⟨(Nat.le_of_ble_eq_true rfl), (Nat.le_of_ble_eq_true rfl)⟩ rfl hl.1 rfl (Nat.le_of_ble_eq_true rfl) dX11_reads_26 (fun v9 μ9 H locs hp hM hS => ?_)
      obtain ⟨u6, rfl, e9, h⟩ := hp
      rw [e9] at hM
      refine W.cs (cells' := 0) (slots' := 0) rfl rfl ?_
      refine lv_istore_n (lv' := [(3, .int u6), (2, .int u4), (0, .ref o), (1, .int x1)]) S.1 S.2.1 dX11_reads_29 rfl hl (by decide) rfl (fun ls hl => ?_)
      refine lv_iconst (v := (nI 0)) S.1 S.2.1 dX11_reads_30 (by decide) ?_
      refine lv_istore (lv' := [(4, .int (nI 0)), (3, .int u6), (2, .int u4), (0, .ref o), (1, .int x1)]) S.1 S.2.1 dX11_reads_31 hl (by decide) rfl (fun ls hl => ?_)
      obtain ⟨n9, h⟩ := h
      exact hB33  n9 x1 u4 u6 (nI 0) μ H locs ls hM hS (lv_sub hl [3, 4, 2, 1, 0] rfl) h
    · have h := h.2 c5
      refine lv_iconst (v := (nI 2)) S.1 S.2.1 dX11_reads_21 (by decide) ?_
      exact mz_iret S hr hlk hM hS rfl (Nat.le_of_ble_eq_true rfl) (Nat.le_of_ble_eq_true rfl) dX11_reads_22 ⟨_, rfl, h⟩
  · have h := h.2 c3
    refine lv_iconst (v := (nI 1)) S.1 S.2.1 dX11_reads_8 (by decide) ?_
    exact mz_iret S hr hlk hM hS rfl (Nat.le_of_ble_eq_true rfl) (Nat.le_of_ble_eq_true rfl) dX11_reads_9 ⟨_, rfl, h⟩
set_option maxRecDepth 100000 in
set_option maxHeartbeats 4000000 in
theorem c_X11_cancels {l : Launch} {G : mgT} {μ : mmT} {o : Nat} {x1 : Int32} {Q : Int32 → mmT → Prop} (h : w_X11_cancels G μ o x1 Q) : MC G l yX11_cancels cX11_cancels 3 (some .int) { frames := 2, cells := 0, slots := 0, locals := 44 } [.ref o, .int x1] μ (pI Q) := by
  refine mz_MC (by decide +kernel) (Nat.le_of_ble_eq_true rfl) (fun p e s m args below meth c S hG hr hlk hnm => ?_)
  have hB35 : ∀ (μ : mmT) (H : Heap) (locs : List Loc) (ls : Array Slot), Mm G μ H → va_S (Ah G) s.heap H locs → lv_has ls 3 [(0, .ref o)] → w_X11_cancels_b35 G o Q  μ → W p l e { frames := 2, cells := 0, slots := 0, locals := 44 } s m args below meth c H locs 0 0 (MQ below (mQ G (pI Q)) args s 0 0 (Ah G)) (F0 m 35 ls []) := by
    intro  μ H locs ls hM hS hl h
    unfold w_X11_cancels_b35 at h
    refine lv_iconst (v := (nI 2)) S.1 S.2.1 dX11_cancels_35 (by decide) ?_
    exact mz_iret S hr hlk hM hS rfl (Nat.le_of_ble_eq_true rfl) (Nat.le_of_ble_eq_true rfl) dX11_cancels_36 ⟨_, rfl, h⟩
  intro H locs ls hM hS hl
  have hl : lv_has ls 3 [(0, .ref o), (1, .int x1)] := hl
  unfold w_X11_cancels at h
  refine lv_aload_n S.1 S.2.1 dX11_cancels_0 rfl (lv_at hl 0 rfl) ?_
  refine lv_iload_n S.1 S.2.1 dX11_cancels_1 rfl (lv_at hl 1 rfl) ?_
  obtain ⟨k1, h⟩ := h
  refine mz_V S hG hM hS cf_10 k1 (As := [.int x1]) (rest := []) (c_X11_placeOf h) yf_X11_placeOf tw_1618 tw_1620 ts_35 ⟨Nat.le_of_ble_eq_true rfl, Nat.le_of_ble_eq_true rfl⟩ ⟨(Nat.le_of_ble_eq_true rfl), (Nat.le_of_ble_eq_true rfl)⟩ rfl hl.1 rfl (Nat.le_of_ble_eq_true rfl) dX11_cancels_2 (fun v9 μ9 H locs hp hM hS => ?_)
  obtain ⟨u2, rfl, e9, h⟩ := hp
  rw [e9] at hM
  refine W.cs (cells' := 0) (slots' := 0) rfl rfl ?_
  refine lv_istore_n (lv' := [(2, .int u2), (0, .ref o), (1, .int x1)]) S.1 S.2.1 dX11_cancels_5 rfl hl (by decide) rfl (fun ls hl => ?_)
  refine lv_iload_n S.1 S.2.1 dX11_cancels_6 rfl (lv_at hl 0 rfl) ?_
  refine lv_iconst (v := (-1)) S.1 S.2.1 dX11_cancels_7 (by decide) ?_
  refine lv_icmp_ne (tgt := 13) S.1 S.2.1 dX11_cancels_8 (by decide) (fun c3 => ?_) (fun c3 => ?_)
  · have h := h.1 c3
    refine lv_aload_n S.1 S.2.1 dX11_cancels_13 rfl (lv_at hl 1 rfl) ?_
    refine lv_iload_n S.1 S.2.1 dX11_cancels_14 rfl (lv_at hl 0 rfl) ?_
    refine lv_iconst (v := (nI 4)) S.1 S.2.1 dX11_cancels_15 (by decide) ?_
    refine mz_V S hG hM hS cf_10 k1 (As := [.int u2, .int (nI 4)]) (rest := []) (c_X11_of h) yf_X11_of tw_1622 tw_1624 ts_36 ⟨Nat.le_of_ble_eq_true rfl, Nat.le_of_ble_eq_true rfl⟩ ⟨(Nat.le_of_ble_eq_true rfl), (Nat.le_of_ble_eq_true rfl)⟩ rfl hl.1 rfl (Nat.le_of_ble_eq_true rfl) dX11_cancels_16 (fun v9 μ9 H locs hp hM hS => ?_)
    obtain ⟨u4, rfl, e9, h⟩ := hp
    rw [e9] at hM
    refine W.cs (cells' := 0) (slots' := 0) rfl rfl ?_
    refine lv_bipush (v := (nI 102)) S.1 S.2.1 dX11_cancels_19 (by decide) ?_
    refine lv_icmp_eq (tgt := 35) S.1 S.2.1 dX11_cancels_21 (by decide) (fun c5 => ?_) (fun c5 => ?_)
    · have h := h.1 c5
      exact hB35  μ H locs ls hM hS (lv_sub hl [1] rfl) h
    · have h := h.2 c5
      refine lv_aload_n S.1 S.2.1 dX11_cancels_24 rfl (lv_at hl 1 rfl) ?_
      refine lv_iload_n S.1 S.2.1 dX11_cancels_25 rfl (lv_at hl 0 rfl) ?_
      refine lv_iconst (v := (nI 4)) S.1 S.2.1 dX11_cancels_26 (by decide) ?_
      refine mz_V S hG hM hS cf_10 k1 (As := [.int u2, .int (nI 4)]) (rest := []) (c_X11_of h) yf_X11_of tw_1622 tw_1624 ts_36 ⟨Nat.le_of_ble_eq_true rfl, Nat.le_of_ble_eq_true rfl⟩ ⟨(Nat.le_of_ble_eq_true rfl), (Nat.le_of_ble_eq_true rfl)⟩ rfl hl.1 rfl (Nat.le_of_ble_eq_true rfl) dX11_cancels_27 (fun v9 μ9 H locs hp hM hS => ?_)
      obtain ⟨u6, rfl, e9, h⟩ := hp
      rw [e9] at hM
      refine W.cs (cells' := 0) (slots' := 0) rfl rfl ?_
      refine lv_bipush (v := (nI 100)) S.1 S.2.1 dX11_cancels_30 (by decide) ?_
      refine lv_icmp_ne (tgt := 37) S.1 S.2.1 dX11_cancels_32 (by decide) (fun c7 => ?_) (fun c7 => ?_)
      · have h := h.1 c7
        refine lv_aload_n S.1 S.2.1 dX11_cancels_37 rfl (lv_at hl 1 rfl) ?_
        refine mz_getr S hG hM cf_10 fd_321 tw_1483 dX11_cancels_38 k1 ?_
        refine lv_bipush (v := (nI 11)) S.1 S.2.1 dX11_cancels_41 (by decide) ?_
        refine lv_dup2_11 S.1 S.2.1 dX11_cancels_43 rfl (mz_cat _) ?_
        obtain ⟨a8, e9, h⟩ := h
        refine mz_o1 e9 ?_
        obtain ⟨k10, h⟩ := h
        obtain ⟨b11, h⟩ := h
        refine mz_iald S hG hM dX11_cancels_44 k10 b11 ?_
        refine lv_iconst (v := (nI 1)) S.1 S.2.1 dX11_cancels_45 (by decide) ?_
        refine lv_iadd S.1 S.2.1 dX11_cancels_46 ?_
        refine mz_o2 e9 ?_
        obtain ⟨b12, h⟩ := h
        refine mz_iast S hG hM hS dX11_cancels_47 k10 b12 (fun H locs hM hS hz9 => ?_)
        refine lv_aload_n S.1 S.2.1 dX11_cancels_48 rfl (lv_at hl 1 rfl) ?_
        refine lv_iload_n S.1 S.2.1 dX11_cancels_49 rfl (lv_at hl 0 rfl) ?_
        refine mz_V S hG hM hS cf_10 k1 (As := [.int u2]) (rest := []) (c_X11_ceases h) yf_X11_ceases tw_1626 tw_1628 ts_37 ⟨Nat.le_of_ble_eq_true rfl, Nat.le_of_ble_eq_true rfl⟩ ⟨(Nat.le_of_ble_eq_true rfl), (Nat.le_of_ble_eq_true rfl)⟩ rfl hl.1 rfl (Nat.le_of_ble_eq_true rfl) dX11_cancels_50 (fun v9 μ13 H locs hp hM hS => ?_)
        obtain ⟨rfl, h⟩ := hp
        refine W.cs (cells' := 0) (slots' := 0) rfl rfl ?_
        refine lv_aload_n S.1 S.2.1 dX11_cancels_53 rfl (lv_at hl 1 rfl) ?_
        refine lv_aload_n S.1 S.2.1 dX11_cancels_54 rfl (lv_at hl 1 rfl) ?_
        obtain ⟨k14, h⟩ := h
        refine mz_getr S hG hM cf_10 fd_321 tw_1483 dX11_cancels_55 k14 ?_
        refine lv_iconst (v := (nI 2)) S.1 S.2.1 dX11_cancels_58 (by decide) ?_
        obtain ⟨a15, e16, h⟩ := h
        refine mz_o1 e16 ?_
        obtain ⟨k17, h⟩ := h
        obtain ⟨b18, h⟩ := h
        refine mz_iald S hG hM dX11_cancels_59 k17 b18 ?_
        refine mz_V S hG hM hS cf_10 k14 (As := [.int (mA μ13 a15 (nI 2).toNatClampNeg)]) (rest := []) (c_X11_done h) yf_X11_done tw_1566 tw_1568 ts_25 ⟨Nat.le_of_ble_eq_true rfl, Nat.le_of_ble_eq_true rfl⟩ ⟨(Nat.le_of_ble_eq_true rfl), (Nat.le_of_ble_eq_true rfl)⟩ rfl hl.1 rfl (Nat.le_of_ble_eq_true rfl) dX11_cancels_60 (fun v9 μ20 H locs hp hM hS => ?_)
        obtain ⟨u19, rfl, h⟩ := hp
        refine W.cs (cells' := 0) (slots' := 0) rfl rfl ?_
        exact mz_iret S hr hlk hM hS rfl (Nat.le_of_ble_eq_true rfl) (Nat.le_of_ble_eq_true rfl) dX11_cancels_63 ⟨_, rfl, h⟩
      · have h := h.2 c7
        exact hB35  μ H locs ls hM hS (lv_sub hl [1] rfl) h
  · have h := h.2 c3
    refine lv_iconst (v := (nI 1)) S.1 S.2.1 dX11_cancels_11 (by decide) ?_
    exact mz_iret S hr hlk hM hS rfl (Nat.le_of_ble_eq_true rfl) (Nat.le_of_ble_eq_true rfl) dX11_cancels_12 ⟨_, rfl, h⟩
set_option maxRecDepth 100000 in
set_option maxHeartbeats 4000000 in
theorem c_X11_blows {l : Launch} {G : mgT} {μ : mmT} {o : Nat} {x1 : Int32} {Q : Int32 → mmT → Prop} (h : w_X11_blows G μ o x1 Q) : MC G l yX11_blows cX11_blows 3 (some .int) { frames := 1, cells := 0, slots := 0, locals := 22 } [.ref o, .int x1] μ (pI Q) := by
  refine mz_MC (by decide +kernel) (Nat.le_of_ble_eq_true rfl) (fun p e s m args below meth c S hG hr hlk hnm => ?_)
  intro H locs ls hM hS hl
  have hl : lv_has ls 3 [(0, .ref o), (1, .int x1)] := hl
  unfold w_X11_blows at h
  refine lv_iload_n S.1 S.2.1 dX11_blows_0 rfl (lv_at hl 1 rfl) ?_
  refine lv_iconst (v := (nI 0)) S.1 S.2.1 dX11_blows_1 (by decide) ?_
  refine lv_bipush (v := (nI 9)) S.1 S.2.1 dX11_blows_2 (by decide) ?_
  refine mz_S S hG hM hS (As := [.int x1, .int (nI 0), .int (nI 9)]) (rest := []) (c_X11_in h) yf_X11_in tw_1559 tw_1560 ⟨Nat.le_of_ble_eq_true rfl, Nat.le_of_ble_eq_true rfl⟩ ⟨(Nat.le_of_ble_eq_true rfl), (Nat.le_of_ble_eq_true rfl)⟩ rfl hl.1 rfl (Nat.le_of_ble_eq_true rfl) dX11_blows_4 (fun v9 μ9 H locs hp hM hS => ?_)
  obtain ⟨u1, rfl, e9, h⟩ := hp
  rw [e9] at hM
  refine W.cs (cells' := 0) (slots' := 0) rfl rfl ?_
  refine lv_if_ne (tgt := 12) S.1 S.2.1 dX11_blows_7 (by decide) (fun c2 => ?_) (fun c2 => ?_)
  · have h := h.1 c2
    refine lv_aload_n S.1 S.2.1 dX11_blows_12 rfl (lv_at hl 0 rfl) ?_
    obtain ⟨k3, h⟩ := h
    refine mz_getr S hG hM cf_10 fd_321 tw_1483 dX11_blows_13 k3 ?_
    refine lv_iconst (v := (nI 5)) S.1 S.2.1 dX11_blows_16 (by decide) ?_
    obtain ⟨a4, e5, h⟩ := h
    refine mz_o1 e5 ?_
    obtain ⟨k6, h⟩ := h
    obtain ⟨b7, h⟩ := h
    refine mz_iald S hG hM dX11_blows_17 k6 b7 ?_
    refine lv_istore_n (lv' := [(2, .int (mA μ a4 (nI 5).toNatClampNeg)), (0, .ref o), (1, .int x1)]) S.1 S.2.1 dX11_blows_18 rfl hl (by decide) rfl (fun ls hl => ?_)
    refine lv_aload_n S.1 S.2.1 dX11_blows_19 rfl (lv_at hl 1 rfl) ?_
    refine mz_getr S hG hM cf_10 fd_321 tw_1483 dX11_blows_20 k3 ?_
    refine lv_iconst (v := (nI 5)) S.1 S.2.1 dX11_blows_23 (by decide) ?_
    refine lv_iload_n S.1 S.2.1 dX11_blows_24 rfl (lv_at hl 2 rfl) ?_
    refine mz_o2 e5 ?_
    obtain ⟨b8, h⟩ := h
    refine mz_iast S hG hM hS dX11_blows_25 k6 b8 (fun H locs hM hS hz9 => ?_)
    refine lv_aload_n S.1 S.2.1 dX11_blows_26 rfl (lv_at hl 1 rfl) ?_
    refine lv_iload_n S.1 S.2.1 dX11_blows_27 rfl (lv_at hl 0 rfl) ?_
    refine mz_V S hG hM hS cf_10 k3 (As := [.int (mA μ a4 (nI 5).toNatClampNeg)]) (rest := []) (c_X11_done h) yf_X11_done tw_1566 tw_1568 ts_25 ⟨Nat.le_of_ble_eq_true rfl, Nat.le_of_ble_eq_true rfl⟩ ⟨(Nat.le_of_ble_eq_true rfl), (Nat.le_of_ble_eq_true rfl)⟩ rfl hl.1 rfl (Nat.le_of_ble_eq_true rfl) dX11_blows_28 (fun v9 μ10 H locs hp hM hS => ?_)
    obtain ⟨u9, rfl, h⟩ := hp
    refine W.cs (cells' := 0) (slots' := 0) rfl rfl ?_
    exact mz_iret S hr hlk hM hS rfl (Nat.le_of_ble_eq_true rfl) (Nat.le_of_ble_eq_true rfl) dX11_blows_31 ⟨_, rfl, h⟩
  · have h := h.2 c2
    refine lv_iconst (v := (nI 1)) S.1 S.2.1 dX11_blows_10 (by decide) ?_
    exact mz_iret S hr hlk hM hS rfl (Nat.le_of_ble_eq_true rfl) (Nat.le_of_ble_eq_true rfl) dX11_blows_11 ⟨_, rfl, h⟩
set_option maxRecDepth 100000 in
set_option maxHeartbeats 4000000 in
theorem c_X11_forgets {l : Launch} {G : mgT} {μ : mmT} {o : Nat} {x1 : Int32} {Q : Int32 → mmT → Prop} (h : w_X11_forgets G μ o x1 Q) : MC G l yX11_forgets cX11_forgets 4 (some .int) { frames := 2, cells := 0, slots := 0, locals := 43 } [.ref o, .int x1] μ (pI Q) := by
  refine mz_MC (by decide +kernel) (Nat.le_of_ble_eq_true rfl) (fun p e s m args below meth c S hG hr hlk hnm => ?_)
  have hB20 : ∀ (n : Nat) (x1 : Int32) (x2 : Int32) (x3 : Int32) (μ : mmT) (H : Heap) (locs : List Loc) (ls : Array Slot), Mm G μ H → va_S (Ah G) s.heap H locs → lv_has ls 4 [(0, .ref o), (1, .int x1), (2, .int x2), (3, .int x3)] → w_X11_forgets_l20 G o Q  n x1 x2 x3 μ → W p l e { frames := 2, cells := 0, slots := 0, locals := 43 } s m args below meth c H locs 0 0 (MQ below (mQ G (pI Q)) args s 0 0 (Ah G)) (F0 m 20 ls []) := by
    intro  n
    induction n with
    | zero =>
      intro x1 x2 x3 μ H locs ls hM hS hl h
      exact False.elim h
    | succ n ih =>
      intro x1 x2 x3 μ H locs ls hM hS hl h
      have h : w_X11_forgets_b20 G o Q  (w_X11_forgets_l20 G o Q  n) x1 x2 x3 μ := h
      unfold w_X11_forgets_b20 at h
      refine lv_iload_n S.1 S.2.1 dX11_forgets_20 rfl (lv_at hl 3 rfl) ?_
      refine lv_bipush (v := (nI 8)) S.1 S.2.1 dX11_forgets_21 (by decide) ?_
      refine lv_icmp_ge (tgt := 42) S.1 S.2.1 dX11_forgets_23 (by decide) (fun c5 => ?_) (fun c5 => ?_)
      · have h := h.1 c5
        refine lv_aload_n S.1 S.2.1 dX11_forgets_42 rfl (lv_at hl 0 rfl) ?_
        refine lv_iload_n S.1 S.2.1 dX11_forgets_43 rfl (lv_at hl 1 rfl) ?_
        refine lv_bipush (v := (nI 11)) S.1 S.2.1 dX11_forgets_44 (by decide) ?_
        refine lv_iconst (v := (nI 0)) S.1 S.2.1 dX11_forgets_46 (by decide) ?_
        obtain ⟨k6, h⟩ := h
        refine mz_V S hG hM hS cf_10 k6 (As := [.int x1, .int (nI 11), .int (nI 0)]) (rest := []) (c_X11_setsNest h) yf_X11_setsNest tw_1562 tw_1564 ts_24 ⟨Nat.le_of_ble_eq_true rfl, Nat.le_of_ble_eq_true rfl⟩ ⟨(Nat.le_of_ble_eq_true rfl), (Nat.le_of_ble_eq_true rfl)⟩ rfl hl.1 rfl (Nat.le_of_ble_eq_true rfl) dX11_forgets_47 (fun v9 μ7 H locs hp hM hS => ?_)
        obtain ⟨rfl, h⟩ := hp
        refine W.cs (cells' := 0) (slots' := 0) rfl rfl ?_
        refine lv_aload_n S.1 S.2.1 dX11_forgets_50 rfl (lv_at hl 0 rfl) ?_
        refine lv_iload_n S.1 S.2.1 dX11_forgets_51 rfl (lv_at hl 2 rfl) ?_
        obtain ⟨k8, h⟩ := h
        refine mz_V S hG hM hS cf_10 k8 (As := [.int x2]) (rest := []) (c_X11_done h) yf_X11_done tw_1566 tw_1568 ts_25 ⟨Nat.le_of_ble_eq_true rfl, Nat.le_of_ble_eq_true rfl⟩ ⟨(Nat.le_of_ble_eq_true rfl), (Nat.le_of_ble_eq_true rfl)⟩ rfl hl.1 rfl (Nat.le_of_ble_eq_true rfl) dX11_forgets_52 (fun v9 μ10 H locs hp hM hS => ?_)
        obtain ⟨u9, rfl, h⟩ := hp
        refine W.cs (cells' := 0) (slots' := 0) rfl rfl ?_
        exact mz_iret S hr hlk hM hS rfl (Nat.le_of_ble_eq_true rfl) (Nat.le_of_ble_eq_true rfl) dX11_forgets_55 ⟨_, rfl, h⟩
      · have h := h.2 c5
        refine lv_aload_n S.1 S.2.1 dX11_forgets_26 rfl (lv_at hl 0 rfl) ?_
        refine lv_iload_n S.1 S.2.1 dX11_forgets_27 rfl (lv_at hl 1 rfl) ?_
        refine lv_bipush (v := (nI 12)) S.1 S.2.1 dX11_forgets_28 (by decide) ?_
        refine lv_iload_n S.1 S.2.1 dX11_forgets_30 rfl (lv_at hl 3 rfl) ?_
        refine lv_iadd S.1 S.2.1 dX11_forgets_31 ?_
        refine lv_iconst (v := (nI 0)) S.1 S.2.1 dX11_forgets_32 (by decide) ?_
        obtain ⟨k11, h⟩ := h
        refine mz_V S hG hM hS cf_10 k11 (As := [.int x1, .int ((nI 12) + x3), .int (nI 0)]) (rest := []) (c_X11_setsNest h) yf_X11_setsNest tw_1562 tw_1564 ts_24 ⟨Nat.le_of_ble_eq_true rfl, Nat.le_of_ble_eq_true rfl⟩ ⟨(Nat.le_of_ble_eq_true rfl), (Nat.le_of_ble_eq_true rfl)⟩ rfl hl.1 rfl (Nat.le_of_ble_eq_true rfl) dX11_forgets_33 (fun v9 μ12 H locs hp hM hS => ?_)
        obtain ⟨rfl, h⟩ := hp
        refine W.cs (cells' := 0) (slots' := 0) rfl rfl ?_
        refine lv_iinc (v := (x3 + nI 1)) (lv' := [(3, .int (x3 + nI 1)), (0, .ref o), (1, .int x1), (2, .int x2)]) S.1 S.2.1 dX11_forgets_36 hl (k := 3) rfl rfl (by decide) rfl (fun ls hl => ?_)
        refine lv_goto (tgt := 20) S.1 S.2.1 dX11_forgets_39 (by decide) ?_
        exact ih x1 x2 (x3 + nI 1) μ12 H locs ls hM hS (lv_sub hl [1, 2, 3, 0] rfl) h
  intro H locs ls hM hS hl
  have hl : lv_has ls 4 [(0, .ref o), (1, .int x1)] := hl
  unfold w_X11_forgets at h
  refine lv_aload_n S.1 S.2.1 dX11_forgets_0 rfl (lv_at hl 0 rfl) ?_
  refine lv_iload_n S.1 S.2.1 dX11_forgets_1 rfl (lv_at hl 1 rfl) ?_
  obtain ⟨k1, h⟩ := h
  refine mz_V S hG hM hS cf_10 k1 (As := [.int x1]) (rest := []) (c_X11_isNest h) yf_X11_isNest tw_1598 tw_1600 ts_31 ⟨Nat.le_of_ble_eq_true rfl, Nat.le_of_ble_eq_true rfl⟩ ⟨(Nat.le_of_ble_eq_true rfl), (Nat.le_of_ble_eq_true rfl)⟩ rfl hl.1 rfl (Nat.le_of_ble_eq_true rfl) dX11_forgets_2 (fun v9 μ9 H locs hp hM hS => ?_)
  obtain ⟨u2, rfl, e9, h⟩ := hp
  rw [e9] at hM
  refine W.cs (cells' := 0) (slots' := 0) rfl rfl ?_
  refine lv_if_ne (tgt := 10) S.1 S.2.1 dX11_forgets_5 (by decide) (fun c3 => ?_) (fun c3 => ?_)
  · have h := h.1 c3
    refine lv_aload_n S.1 S.2.1 dX11_forgets_10 rfl (lv_at hl 0 rfl) ?_
    refine lv_iload_n S.1 S.2.1 dX11_forgets_11 rfl (lv_at hl 1 rfl) ?_
    refine lv_bipush (v := (nI 11)) S.1 S.2.1 dX11_forgets_12 (by decide) ?_
    refine mz_V S hG hM hS cf_10 k1 (As := [.int x1, .int (nI 11)]) (rest := []) (c_X11_nest h) yf_X11_nest tw_1614 tw_1616 ts_34 ⟨Nat.le_of_ble_eq_true rfl, Nat.le_of_ble_eq_true rfl⟩ ⟨(Nat.le_of_ble_eq_true rfl), (Nat.le_of_ble_eq_true rfl)⟩ rfl hl.1 rfl (Nat.le_of_ble_eq_true rfl) dX11_forgets_14 (fun v9 μ9 H locs hp hM hS => ?_)
    obtain ⟨u4, rfl, e9, h⟩ := hp
    rw [e9] at hM
    refine W.cs (cells' := 0) (slots' := 0) rfl rfl ?_
    refine lv_istore_n (lv' := [(2, .int u4), (0, .ref o), (1, .int x1)]) S.1 S.2.1 dX11_forgets_17 rfl hl (by decide) rfl (fun ls hl => ?_)
    refine lv_iconst (v := (nI 0)) S.1 S.2.1 dX11_forgets_18 (by decide) ?_
    refine lv_istore_n (lv' := [(3, .int (nI 0)), (2, .int u4), (0, .ref o), (1, .int x1)]) S.1 S.2.1 dX11_forgets_19 rfl hl (by decide) rfl (fun ls hl => ?_)
    obtain ⟨n9, h⟩ := h
    exact hB20  n9 x1 u4 (nI 0) μ H locs ls hM hS (lv_sub hl [2, 3, 1, 0] rfl) h
  · have h := h.2 c3
    refine lv_iconst (v := (nI 1)) S.1 S.2.1 dX11_forgets_8 (by decide) ?_
    exact mz_iret S hr hlk hM hS rfl (Nat.le_of_ble_eq_true rfl) (Nat.le_of_ble_eq_true rfl) dX11_forgets_9 ⟨_, rfl, h⟩
set_option maxRecDepth 100000 in
set_option maxHeartbeats 4000000 in
theorem c_X11_passes {l : Launch} {G : mgT} {μ : mmT} {o : Nat} {x1 : Int32} {Q : Int32 → mmT → Prop} (h : w_X11_passes G μ o x1 Q) : MC G l yX11_passes cX11_passes 4 (some .int) { frames := 4, cells := 0, slots := 0, locals := 94 } [.ref o, .int x1] μ (pI Q) := by
  refine mz_MC (by decide +kernel) (Nat.le_of_ble_eq_true rfl) (fun p e s m args below meth c S hG hr hlk hnm => ?_)
  have hB22 : ∀ (n : Nat) (x1 : Int32) (x2 : Int32) (x3 : Int32) (μ : mmT) (H : Heap) (locs : List Loc) (ls : Array Slot), Mm G μ H → va_S (Ah G) s.heap H locs → lv_has ls 4 [(0, .ref o), (1, .int x1), (2, .int x2), (3, .int x3)] → w_X11_passes_l22 G o Q  n x1 x2 x3 μ → W p l e { frames := 4, cells := 0, slots := 0, locals := 94 } s m args below meth c H locs 0 0 (MQ below (mQ G (pI Q)) args s 0 0 (Ah G)) (F0 m 22 ls []) := by
    intro  n
    induction n with
    | zero =>
      intro x1 x2 x3 μ H locs ls hM hS hl h
      exact False.elim h
    | succ n ih =>
      intro x1 x2 x3 μ H locs ls hM hS hl h
      have h : w_X11_passes_b22 G o Q  (w_X11_passes_l22 G o Q  n) x1 x2 x3 μ := h
      unfold w_X11_passes_b22 at h
      refine lv_iload_n S.1 S.2.1 dX11_passes_22 rfl (lv_at hl 3 rfl) ?_
      refine lv_iload_n S.1 S.2.1 dX11_passes_23 rfl (lv_at hl 1 rfl) ?_
      refine lv_icmp_ge (tgt := 37) S.1 S.2.1 dX11_passes_24 (by decide) (fun c8 => ?_) (fun c8 => ?_)
      · have h := h.1 c8
        refine lv_aload_n S.1 S.2.1 dX11_passes_37 rfl (lv_at hl 0 rfl) ?_
        refine lv_aload_n S.1 S.2.1 dX11_passes_38 rfl (lv_at hl 0 rfl) ?_
        obtain ⟨k9, h⟩ := h
        refine mz_getr S hG hM cf_10 fd_321 tw_1483 dX11_passes_39 k9 ?_
        refine lv_bipush (v := (nI 6)) S.1 S.2.1 dX11_passes_42 (by decide) ?_
        obtain ⟨a10, e11, h⟩ := h
        refine mz_o1 e11 ?_
        obtain ⟨k12, h⟩ := h
        obtain ⟨b13, h⟩ := h
        refine mz_iald S hG hM dX11_passes_44 k12 b13 ?_
        refine lv_iload_n S.1 S.2.1 dX11_passes_45 rfl (lv_at hl 2 rfl) ?_
        refine lv_isub S.1 S.2.1 dX11_passes_46 ?_
        refine mz_V S hG hM hS cf_10 k9 (As := [.int ((mA μ a10 (nI 6).toNatClampNeg) - x2)]) (rest := []) (c_X11_done h) yf_X11_done tw_1566 tw_1568 ts_25 ⟨Nat.le_of_ble_eq_true rfl, Nat.le_of_ble_eq_true rfl⟩ ⟨(Nat.le_of_ble_eq_true rfl), (Nat.le_of_ble_eq_true rfl)⟩ rfl hl.1 rfl (Nat.le_of_ble_eq_true rfl) dX11_passes_47 (fun v9 μ15 H locs hp hM hS => ?_)
        obtain ⟨u14, rfl, h⟩ := hp
        refine W.cs (cells' := 0) (slots' := 0) rfl rfl ?_
        exact mz_iret S hr hlk hM hS rfl (Nat.le_of_ble_eq_true rfl) (Nat.le_of_ble_eq_true rfl) dX11_passes_50 ⟨_, rfl, h⟩
      · have h := h.2 c8
        refine lv_aload_n S.1 S.2.1 dX11_passes_27 rfl (lv_at hl 0 rfl) ?_
        obtain ⟨k16, h⟩ := h
        refine mz_V S hG hM hS cf_10 k16 (As := []) (rest := []) (c_X11_minute h) yf_X11_minute tw_1662 tw_1664 ts_42 ⟨Nat.le_of_ble_eq_true rfl, Nat.le_of_ble_eq_true rfl⟩ ⟨(Nat.le_of_ble_eq_true rfl), (Nat.le_of_ble_eq_true rfl)⟩ rfl hl.1 rfl (Nat.le_of_ble_eq_true rfl) dX11_passes_28 (fun v9 μ17 H locs hp hM hS => ?_)
        obtain ⟨rfl, h⟩ := hp
        refine W.cs (cells' := 0) (slots' := 0) rfl rfl ?_
        refine lv_iinc (v := (x3 + nI 1)) (lv' := [(3, .int (x3 + nI 1)), (0, .ref o), (1, .int x1), (2, .int x2)]) S.1 S.2.1 dX11_passes_31 hl (k := 3) rfl rfl (by decide) rfl (fun ls hl => ?_)
        refine lv_goto (tgt := 22) S.1 S.2.1 dX11_passes_34 (by decide) ?_
        exact ih x1 x2 (x3 + nI 1) μ17 H locs ls hM hS (lv_sub hl [1, 2, 3, 0] rfl) h
  intro H locs ls hM hS hl
  have hl : lv_has ls 4 [(0, .ref o), (1, .int x1)] := hl
  unfold w_X11_passes at h
  refine lv_iload_n S.1 S.2.1 dX11_passes_0 rfl (lv_at hl 1 rfl) ?_
  refine lv_iconst (v := (nI 1)) S.1 S.2.1 dX11_passes_1 (by decide) ?_
  refine lv_bipush (v := (nI 100)) S.1 S.2.1 dX11_passes_2 (by decide) ?_
  refine mz_S S hG hM hS (As := [.int x1, .int (nI 1), .int (nI 100)]) (rest := []) (c_X11_in h) yf_X11_in tw_1559 tw_1560 ⟨Nat.le_of_ble_eq_true rfl, Nat.le_of_ble_eq_true rfl⟩ ⟨(Nat.le_of_ble_eq_true rfl), (Nat.le_of_ble_eq_true rfl)⟩ rfl hl.1 rfl (Nat.le_of_ble_eq_true rfl) dX11_passes_4 (fun v9 μ9 H locs hp hM hS => ?_)
  obtain ⟨u1, rfl, e9, h⟩ := hp
  rw [e9] at hM
  refine W.cs (cells' := 0) (slots' := 0) rfl rfl ?_
  refine lv_if_ne (tgt := 12) S.1 S.2.1 dX11_passes_7 (by decide) (fun c2 => ?_) (fun c2 => ?_)
  · have h := h.1 c2
    refine lv_aload_n S.1 S.2.1 dX11_passes_12 rfl (lv_at hl 0 rfl) ?_
    obtain ⟨k3, h⟩ := h
    refine mz_getr S hG hM cf_10 fd_321 tw_1483 dX11_passes_13 k3 ?_
    refine lv_bipush (v := (nI 6)) S.1 S.2.1 dX11_passes_16 (by decide) ?_
    obtain ⟨a4, e5, h⟩ := h
    refine mz_o1 e5 ?_
    obtain ⟨k6, h⟩ := h
    obtain ⟨b7, h⟩ := h
    refine mz_iald S hG hM dX11_passes_18 k6 b7 ?_
    refine lv_istore_n (lv' := [(2, .int (mA μ a4 (nI 6).toNatClampNeg)), (0, .ref o), (1, .int x1)]) S.1 S.2.1 dX11_passes_19 rfl hl (by decide) rfl (fun ls hl => ?_)
    refine lv_iconst (v := (nI 0)) S.1 S.2.1 dX11_passes_20 (by decide) ?_
    refine lv_istore_n (lv' := [(3, .int (nI 0)), (2, .int (mA μ a4 (nI 6).toNatClampNeg)), (0, .ref o), (1, .int x1)]) S.1 S.2.1 dX11_passes_21 rfl hl (by decide) rfl (fun ls hl => ?_)
    obtain ⟨n9, h⟩ := h
    exact hB22  n9 x1 (mA μ a4 (nI 6).toNatClampNeg) (nI 0) μ H locs ls hM hS (lv_sub hl [2, 3, 1, 0] rfl) h
  · have h := h.2 c2
    refine lv_iconst (v := (nI 1)) S.1 S.2.1 dX11_passes_10 (by decide) ?_
    exact mz_iret S hr hlk hM hS rfl (Nat.le_of_ble_eq_true rfl) (Nat.le_of_ble_eq_true rfl) dX11_passes_11 ⟨_, rfl, h⟩
set_option maxRecDepth 100000 in
set_option maxHeartbeats 4000000 in
theorem c_X11_addNest {l : Launch} {G : mgT} {μ : mmT} {o : Nat} {x1 : Int32} {x2 : Int32} {Q : Int32 → mmT → Prop} (h : w_X11_addNest G μ o x1 x2 Q) : MC G l yX11_addNest cX11_addNest 3 (some .int) { frames := 2, cells := 0, slots := 0, locals := 47 } [.ref o, .int x1, .int x2] μ (pI Q) := by
  refine mz_MC (by decide +kernel) (Nat.le_of_ble_eq_true rfl) (fun p e s m args below meth c S hG hr hlk hnm => ?_)
  intro H locs ls hM hS hl
  have hl : lv_has ls 3 [(0, .ref o), (1, .int x1), (2, .int x2)] := hl
  unfold w_X11_addNest at h
  refine lv_aload_n S.1 S.2.1 dX11_addNest_0 rfl (lv_at hl 0 rfl) ?_
  obtain ⟨k1, h⟩ := h
  refine mz_V S hG hM hS cf_10 k1 (As := []) (rest := []) (c_X11_remembersAll h) yf_X11_remembersAll tw_1551 tw_1553 ts_22 ⟨Nat.le_of_ble_eq_true rfl, Nat.le_of_ble_eq_true rfl⟩ ⟨(Nat.le_of_ble_eq_true rfl), (Nat.le_of_ble_eq_true rfl)⟩ rfl hl.1 rfl (Nat.le_of_ble_eq_true rfl) dX11_addNest_1 (fun v9 μ2 H locs hp hM hS => ?_)
  obtain ⟨rfl, h⟩ := hp
  refine W.cs (cells' := 0) (slots' := 0) rfl rfl ?_
  refine lv_aload_n S.1 S.2.1 dX11_addNest_4 rfl (lv_at hl 0 rfl) ?_
  refine lv_aload_n S.1 S.2.1 dX11_addNest_5 rfl (lv_at hl 0 rfl) ?_
  refine lv_iload_n S.1 S.2.1 dX11_addNest_6 rfl (lv_at hl 1 rfl) ?_
  refine lv_iload_n S.1 S.2.1 dX11_addNest_7 rfl (lv_at hl 2 rfl) ?_
  obtain ⟨k3, h⟩ := h
  refine mz_V S hG hM hS cf_10 k3 (As := [.int x1, .int x2]) (rest := [.ref o]) (c_X11_builds h) yf_X11_builds tw_1555 tw_1557 ts_23 ⟨Nat.le_of_ble_eq_true rfl, Nat.le_of_ble_eq_true rfl⟩ ⟨(Nat.le_of_ble_eq_true rfl), (Nat.le_of_ble_eq_true rfl)⟩ rfl hl.1 rfl (Nat.le_of_ble_eq_true rfl) dX11_addNest_8 (fun v9 μ5 H locs hp hM hS => ?_)
  obtain ⟨u4, rfl, h⟩ := hp
  refine W.cs (cells' := 0) (slots' := 0) rfl rfl ?_
  obtain ⟨k6, h⟩ := h
  refine mz_V S hG hM hS cf_10 k6 (As := [.int u4]) (rest := []) (c_X11_ends h) yf_X11_ends tw_1570 tw_1572 ts_26 ⟨Nat.le_of_ble_eq_true rfl, Nat.le_of_ble_eq_true rfl⟩ ⟨(Nat.le_of_ble_eq_true rfl), (Nat.le_of_ble_eq_true rfl)⟩ rfl hl.1 rfl (Nat.le_of_ble_eq_true rfl) dX11_addNest_11 (fun v9 μ8 H locs hp hM hS => ?_)
  obtain ⟨u7, rfl, h⟩ := hp
  refine W.cs (cells' := 0) (slots' := 0) rfl rfl ?_
  exact mz_iret S hr hlk hM hS rfl (Nat.le_of_ble_eq_true rfl) (Nat.le_of_ble_eq_true rfl) dX11_addNest_14 ⟨_, rfl, h⟩
set_option maxRecDepth 100000 in
set_option maxHeartbeats 4000000 in
theorem c_X11_addCrow {l : Launch} {G : mgT} {μ : mmT} {o : Nat} {Q : Int32 → mmT → Prop} (h : w_X11_addCrow G μ o Q) : MC G l yX11_addCrow cX11_addCrow 1 (some .int) { frames := 2, cells := 0, slots := 0, locals := 43 } [.ref o] μ (pI Q) := by
  refine mz_MC (by decide +kernel) (Nat.le_of_ble_eq_true rfl) (fun p e s m args below meth c S hG hr hlk hnm => ?_)
  intro H locs ls hM hS hl
  have hl : lv_has ls 1 [(0, .ref o)] := hl
  unfold w_X11_addCrow at h
  refine lv_aload_n S.1 S.2.1 dX11_addCrow_0 rfl (lv_at hl 0 rfl) ?_
  obtain ⟨k1, h⟩ := h
  refine mz_V S hG hM hS cf_10 k1 (As := []) (rest := []) (c_X11_remembersAll h) yf_X11_remembersAll tw_1551 tw_1553 ts_22 ⟨Nat.le_of_ble_eq_true rfl, Nat.le_of_ble_eq_true rfl⟩ ⟨(Nat.le_of_ble_eq_true rfl), (Nat.le_of_ble_eq_true rfl)⟩ rfl hl.1 rfl (Nat.le_of_ble_eq_true rfl) dX11_addCrow_1 (fun v9 μ2 H locs hp hM hS => ?_)
  obtain ⟨rfl, h⟩ := hp
  refine W.cs (cells' := 0) (slots' := 0) rfl rfl ?_
  refine lv_aload_n S.1 S.2.1 dX11_addCrow_4 rfl (lv_at hl 0 rfl) ?_
  refine lv_aload_n S.1 S.2.1 dX11_addCrow_5 rfl (lv_at hl 0 rfl) ?_
  obtain ⟨k3, h⟩ := h
  refine mz_V S hG hM hS cf_10 k3 (As := []) (rest := [.ref o]) (c_X11_hires h) yf_X11_hires tw_1586 tw_1588 ts_29 ⟨Nat.le_of_ble_eq_true rfl, Nat.le_of_ble_eq_true rfl⟩ ⟨(Nat.le_of_ble_eq_true rfl), (Nat.le_of_ble_eq_true rfl)⟩ rfl hl.1 rfl (Nat.le_of_ble_eq_true rfl) dX11_addCrow_6 (fun v9 μ5 H locs hp hM hS => ?_)
  obtain ⟨u4, rfl, h⟩ := hp
  refine W.cs (cells' := 0) (slots' := 0) rfl rfl ?_
  obtain ⟨k6, h⟩ := h
  refine mz_V S hG hM hS cf_10 k6 (As := [.int u4]) (rest := []) (c_X11_ends h) yf_X11_ends tw_1570 tw_1572 ts_26 ⟨Nat.le_of_ble_eq_true rfl, Nat.le_of_ble_eq_true rfl⟩ ⟨(Nat.le_of_ble_eq_true rfl), (Nat.le_of_ble_eq_true rfl)⟩ rfl hl.1 rfl (Nat.le_of_ble_eq_true rfl) dX11_addCrow_9 (fun v9 μ8 H locs hp hM hS => ?_)
  obtain ⟨u7, rfl, h⟩ := hp
  refine W.cs (cells' := 0) (slots' := 0) rfl rfl ?_
  exact mz_iret S hr hlk hM hS rfl (Nat.le_of_ble_eq_true rfl) (Nat.le_of_ble_eq_true rfl) dX11_addCrow_12 ⟨_, rfl, h⟩
set_option maxRecDepth 100000 in
set_option maxHeartbeats 4000000 in
theorem c_X11_publish {l : Launch} {G : mgT} {μ : mmT} {o : Nat} {x1 : Int32} {x2 : Int32} {Q : Int32 → mmT → Prop} (h : w_X11_publish G μ o x1 x2 Q) : MC G l yX11_publish cX11_publish 3 (some .int) { frames := 3, cells := 0, slots := 0, locals := 67 } [.ref o, .int x1, .int x2] μ (pI Q) := by
  refine mz_MC (by decide +kernel) (Nat.le_of_ble_eq_true rfl) (fun p e s m args below meth c S hG hr hlk hnm => ?_)
  intro H locs ls hM hS hl
  have hl : lv_has ls 3 [(0, .ref o), (1, .int x1), (2, .int x2)] := hl
  unfold w_X11_publish at h
  refine lv_aload_n S.1 S.2.1 dX11_publish_0 rfl (lv_at hl 0 rfl) ?_
  obtain ⟨k1, h⟩ := h
  refine mz_V S hG hM hS cf_10 k1 (As := []) (rest := []) (c_X11_remembersAll h) yf_X11_remembersAll tw_1551 tw_1553 ts_22 ⟨Nat.le_of_ble_eq_true rfl, Nat.le_of_ble_eq_true rfl⟩ ⟨(Nat.le_of_ble_eq_true rfl), (Nat.le_of_ble_eq_true rfl)⟩ rfl hl.1 rfl (Nat.le_of_ble_eq_true rfl) dX11_publish_1 (fun v9 μ2 H locs hp hM hS => ?_)
  obtain ⟨rfl, h⟩ := hp
  refine W.cs (cells' := 0) (slots' := 0) rfl rfl ?_
  refine lv_aload_n S.1 S.2.1 dX11_publish_4 rfl (lv_at hl 0 rfl) ?_
  refine lv_aload_n S.1 S.2.1 dX11_publish_5 rfl (lv_at hl 0 rfl) ?_
  refine lv_iload_n S.1 S.2.1 dX11_publish_6 rfl (lv_at hl 1 rfl) ?_
  refine lv_iload_n S.1 S.2.1 dX11_publish_7 rfl (lv_at hl 2 rfl) ?_
  obtain ⟨k3, h⟩ := h
  refine mz_V S hG hM hS cf_10 k3 (As := [.int x1, .int x2]) (rest := [.ref o]) (c_X11_publishes h) yf_X11_publishes tw_1594 tw_1596 ts_30 ⟨Nat.le_of_ble_eq_true rfl, Nat.le_of_ble_eq_true rfl⟩ ⟨(Nat.le_of_ble_eq_true rfl), (Nat.le_of_ble_eq_true rfl)⟩ rfl hl.1 rfl (Nat.le_of_ble_eq_true rfl) dX11_publish_8 (fun v9 μ5 H locs hp hM hS => ?_)
  obtain ⟨u4, rfl, h⟩ := hp
  refine W.cs (cells' := 0) (slots' := 0) rfl rfl ?_
  obtain ⟨k6, h⟩ := h
  refine mz_V S hG hM hS cf_10 k6 (As := [.int u4]) (rest := []) (c_X11_ends h) yf_X11_ends tw_1570 tw_1572 ts_26 ⟨Nat.le_of_ble_eq_true rfl, Nat.le_of_ble_eq_true rfl⟩ ⟨(Nat.le_of_ble_eq_true rfl), (Nat.le_of_ble_eq_true rfl)⟩ rfl hl.1 rfl (Nat.le_of_ble_eq_true rfl) dX11_publish_11 (fun v9 μ8 H locs hp hM hS => ?_)
  obtain ⟨u7, rfl, h⟩ := hp
  refine W.cs (cells' := 0) (slots' := 0) rfl rfl ?_
  exact mz_iret S hr hlk hM hS rfl (Nat.le_of_ble_eq_true rfl) (Nat.le_of_ble_eq_true rfl) dX11_publish_14 ⟨_, rfl, h⟩
set_option maxRecDepth 100000 in
set_option maxHeartbeats 4000000 in
theorem c_X11_read {l : Launch} {G : mgT} {μ : mmT} {o : Nat} {x1 : Int32} {Q : Int32 → mmT → Prop} (h : w_X11_read G μ o x1 Q) : MC G l yX11_read cX11_read 2 (some .int) { frames := 3, cells := 0, slots := 0, locals := 68 } [.ref o, .int x1] μ (pI Q) := by
  refine mz_MC (by decide +kernel) (Nat.le_of_ble_eq_true rfl) (fun p e s m args below meth c S hG hr hlk hnm => ?_)
  intro H locs ls hM hS hl
  have hl : lv_has ls 2 [(0, .ref o), (1, .int x1)] := hl
  unfold w_X11_read at h
  refine lv_aload_n S.1 S.2.1 dX11_read_0 rfl (lv_at hl 0 rfl) ?_
  obtain ⟨k1, h⟩ := h
  refine mz_V S hG hM hS cf_10 k1 (As := []) (rest := []) (c_X11_remembersAll h) yf_X11_remembersAll tw_1551 tw_1553 ts_22 ⟨Nat.le_of_ble_eq_true rfl, Nat.le_of_ble_eq_true rfl⟩ ⟨(Nat.le_of_ble_eq_true rfl), (Nat.le_of_ble_eq_true rfl)⟩ rfl hl.1 rfl (Nat.le_of_ble_eq_true rfl) dX11_read_1 (fun v9 μ2 H locs hp hM hS => ?_)
  obtain ⟨rfl, h⟩ := hp
  refine W.cs (cells' := 0) (slots' := 0) rfl rfl ?_
  refine lv_aload_n S.1 S.2.1 dX11_read_4 rfl (lv_at hl 0 rfl) ?_
  refine lv_aload_n S.1 S.2.1 dX11_read_5 rfl (lv_at hl 0 rfl) ?_
  refine lv_iload_n S.1 S.2.1 dX11_read_6 rfl (lv_at hl 1 rfl) ?_
  obtain ⟨k3, h⟩ := h
  refine mz_V S hG hM hS cf_10 k3 (As := [.int x1]) (rest := [.ref o]) (c_X11_reads h) yf_X11_reads tw_1610 tw_1612 ts_33 ⟨Nat.le_of_ble_eq_true rfl, Nat.le_of_ble_eq_true rfl⟩ ⟨(Nat.le_of_ble_eq_true rfl), (Nat.le_of_ble_eq_true rfl)⟩ rfl hl.1 rfl (Nat.le_of_ble_eq_true rfl) dX11_read_7 (fun v9 μ5 H locs hp hM hS => ?_)
  obtain ⟨u4, rfl, h⟩ := hp
  refine W.cs (cells' := 0) (slots' := 0) rfl rfl ?_
  obtain ⟨k6, h⟩ := h
  refine mz_V S hG hM hS cf_10 k6 (As := [.int u4]) (rest := []) (c_X11_ends h) yf_X11_ends tw_1570 tw_1572 ts_26 ⟨Nat.le_of_ble_eq_true rfl, Nat.le_of_ble_eq_true rfl⟩ ⟨(Nat.le_of_ble_eq_true rfl), (Nat.le_of_ble_eq_true rfl)⟩ rfl hl.1 rfl (Nat.le_of_ble_eq_true rfl) dX11_read_10 (fun v9 μ8 H locs hp hM hS => ?_)
  obtain ⟨u7, rfl, h⟩ := hp
  refine W.cs (cells' := 0) (slots' := 0) rfl rfl ?_
  exact mz_iret S hr hlk hM hS rfl (Nat.le_of_ble_eq_true rfl) (Nat.le_of_ble_eq_true rfl) dX11_read_13 ⟨_, rfl, h⟩
set_option maxRecDepth 100000 in
set_option maxHeartbeats 4000000 in
theorem c_X11_cancel {l : Launch} {G : mgT} {μ : mmT} {o : Nat} {x1 : Int32} {Q : Int32 → mmT → Prop} (h : w_X11_cancel G μ o x1 Q) : MC G l yX11_cancel cX11_cancel 2 (some .int) { frames := 3, cells := 0, slots := 0, locals := 66 } [.ref o, .int x1] μ (pI Q) := by
  refine mz_MC (by decide +kernel) (Nat.le_of_ble_eq_true rfl) (fun p e s m args below meth c S hG hr hlk hnm => ?_)
  intro H locs ls hM hS hl
  have hl : lv_has ls 2 [(0, .ref o), (1, .int x1)] := hl
  unfold w_X11_cancel at h
  refine lv_aload_n S.1 S.2.1 dX11_cancel_0 rfl (lv_at hl 0 rfl) ?_
  obtain ⟨k1, h⟩ := h
  refine mz_V S hG hM hS cf_10 k1 (As := []) (rest := []) (c_X11_remembersAll h) yf_X11_remembersAll tw_1551 tw_1553 ts_22 ⟨Nat.le_of_ble_eq_true rfl, Nat.le_of_ble_eq_true rfl⟩ ⟨(Nat.le_of_ble_eq_true rfl), (Nat.le_of_ble_eq_true rfl)⟩ rfl hl.1 rfl (Nat.le_of_ble_eq_true rfl) dX11_cancel_1 (fun v9 μ2 H locs hp hM hS => ?_)
  obtain ⟨rfl, h⟩ := hp
  refine W.cs (cells' := 0) (slots' := 0) rfl rfl ?_
  refine lv_aload_n S.1 S.2.1 dX11_cancel_4 rfl (lv_at hl 0 rfl) ?_
  refine lv_aload_n S.1 S.2.1 dX11_cancel_5 rfl (lv_at hl 0 rfl) ?_
  refine lv_iload_n S.1 S.2.1 dX11_cancel_6 rfl (lv_at hl 1 rfl) ?_
  obtain ⟨k3, h⟩ := h
  refine mz_V S hG hM hS cf_10 k3 (As := [.int x1]) (rest := [.ref o]) (c_X11_cancels h) yf_X11_cancels tw_1634 tw_1636 ts_38 ⟨Nat.le_of_ble_eq_true rfl, Nat.le_of_ble_eq_true rfl⟩ ⟨(Nat.le_of_ble_eq_true rfl), (Nat.le_of_ble_eq_true rfl)⟩ rfl hl.1 rfl (Nat.le_of_ble_eq_true rfl) dX11_cancel_7 (fun v9 μ5 H locs hp hM hS => ?_)
  obtain ⟨u4, rfl, h⟩ := hp
  refine W.cs (cells' := 0) (slots' := 0) rfl rfl ?_
  obtain ⟨k6, h⟩ := h
  refine mz_V S hG hM hS cf_10 k6 (As := [.int u4]) (rest := []) (c_X11_ends h) yf_X11_ends tw_1570 tw_1572 ts_26 ⟨Nat.le_of_ble_eq_true rfl, Nat.le_of_ble_eq_true rfl⟩ ⟨(Nat.le_of_ble_eq_true rfl), (Nat.le_of_ble_eq_true rfl)⟩ rfl hl.1 rfl (Nat.le_of_ble_eq_true rfl) dX11_cancel_10 (fun v9 μ8 H locs hp hM hS => ?_)
  obtain ⟨u7, rfl, h⟩ := hp
  refine W.cs (cells' := 0) (slots' := 0) rfl rfl ?_
  exact mz_iret S hr hlk hM hS rfl (Nat.le_of_ble_eq_true rfl) (Nat.le_of_ble_eq_true rfl) dX11_cancel_13 ⟨_, rfl, h⟩
set_option maxRecDepth 100000 in
set_option maxHeartbeats 4000000 in
theorem c_X11_setWind {l : Launch} {G : mgT} {μ : mmT} {o : Nat} {x1 : Int32} {Q : Int32 → mmT → Prop} (h : w_X11_setWind G μ o x1 Q) : MC G l yX11_setWind cX11_setWind 2 (some .int) { frames := 2, cells := 0, slots := 0, locals := 44 } [.ref o, .int x1] μ (pI Q) := by
  refine mz_MC (by decide +kernel) (Nat.le_of_ble_eq_true rfl) (fun p e s m args below meth c S hG hr hlk hnm => ?_)
  intro H locs ls hM hS hl
  have hl : lv_has ls 2 [(0, .ref o), (1, .int x1)] := hl
  unfold w_X11_setWind at h
  refine lv_aload_n S.1 S.2.1 dX11_setWind_0 rfl (lv_at hl 0 rfl) ?_
  obtain ⟨k1, h⟩ := h
  refine mz_V S hG hM hS cf_10 k1 (As := []) (rest := []) (c_X11_remembersAll h) yf_X11_remembersAll tw_1551 tw_1553 ts_22 ⟨Nat.le_of_ble_eq_true rfl, Nat.le_of_ble_eq_true rfl⟩ ⟨(Nat.le_of_ble_eq_true rfl), (Nat.le_of_ble_eq_true rfl)⟩ rfl hl.1 rfl (Nat.le_of_ble_eq_true rfl) dX11_setWind_1 (fun v9 μ2 H locs hp hM hS => ?_)
  obtain ⟨rfl, h⟩ := hp
  refine W.cs (cells' := 0) (slots' := 0) rfl rfl ?_
  refine lv_aload_n S.1 S.2.1 dX11_setWind_4 rfl (lv_at hl 0 rfl) ?_
  refine lv_aload_n S.1 S.2.1 dX11_setWind_5 rfl (lv_at hl 0 rfl) ?_
  refine lv_iload_n S.1 S.2.1 dX11_setWind_6 rfl (lv_at hl 1 rfl) ?_
  obtain ⟨k3, h⟩ := h
  refine mz_V S hG hM hS cf_10 k3 (As := [.int x1]) (rest := [.ref o]) (c_X11_blows h) yf_X11_blows tw_1642 tw_1644 ts_39 ⟨Nat.le_of_ble_eq_true rfl, Nat.le_of_ble_eq_true rfl⟩ ⟨(Nat.le_of_ble_eq_true rfl), (Nat.le_of_ble_eq_true rfl)⟩ rfl hl.1 rfl (Nat.le_of_ble_eq_true rfl) dX11_setWind_7 (fun v9 μ5 H locs hp hM hS => ?_)
  obtain ⟨u4, rfl, h⟩ := hp
  refine W.cs (cells' := 0) (slots' := 0) rfl rfl ?_
  obtain ⟨k6, h⟩ := h
  refine mz_V S hG hM hS cf_10 k6 (As := [.int u4]) (rest := []) (c_X11_ends h) yf_X11_ends tw_1570 tw_1572 ts_26 ⟨Nat.le_of_ble_eq_true rfl, Nat.le_of_ble_eq_true rfl⟩ ⟨(Nat.le_of_ble_eq_true rfl), (Nat.le_of_ble_eq_true rfl)⟩ rfl hl.1 rfl (Nat.le_of_ble_eq_true rfl) dX11_setWind_10 (fun v9 μ8 H locs hp hM hS => ?_)
  obtain ⟨u7, rfl, h⟩ := hp
  refine W.cs (cells' := 0) (slots' := 0) rfl rfl ?_
  exact mz_iret S hr hlk hM hS rfl (Nat.le_of_ble_eq_true rfl) (Nat.le_of_ble_eq_true rfl) dX11_setWind_13 ⟨_, rfl, h⟩
set_option maxRecDepth 100000 in
set_option maxHeartbeats 4000000 in
theorem c_X11_forget {l : Launch} {G : mgT} {μ : mmT} {o : Nat} {x1 : Int32} {Q : Int32 → mmT → Prop} (h : w_X11_forget G μ o x1 Q) : MC G l yX11_forget cX11_forget 2 (some .int) { frames := 3, cells := 0, slots := 0, locals := 66 } [.ref o, .int x1] μ (pI Q) := by
  refine mz_MC (by decide +kernel) (Nat.le_of_ble_eq_true rfl) (fun p e s m args below meth c S hG hr hlk hnm => ?_)
  intro H locs ls hM hS hl
  have hl : lv_has ls 2 [(0, .ref o), (1, .int x1)] := hl
  unfold w_X11_forget at h
  refine lv_aload_n S.1 S.2.1 dX11_forget_0 rfl (lv_at hl 0 rfl) ?_
  obtain ⟨k1, h⟩ := h
  refine mz_V S hG hM hS cf_10 k1 (As := []) (rest := []) (c_X11_remembersAll h) yf_X11_remembersAll tw_1551 tw_1553 ts_22 ⟨Nat.le_of_ble_eq_true rfl, Nat.le_of_ble_eq_true rfl⟩ ⟨(Nat.le_of_ble_eq_true rfl), (Nat.le_of_ble_eq_true rfl)⟩ rfl hl.1 rfl (Nat.le_of_ble_eq_true rfl) dX11_forget_1 (fun v9 μ2 H locs hp hM hS => ?_)
  obtain ⟨rfl, h⟩ := hp
  refine W.cs (cells' := 0) (slots' := 0) rfl rfl ?_
  refine lv_aload_n S.1 S.2.1 dX11_forget_4 rfl (lv_at hl 0 rfl) ?_
  refine lv_aload_n S.1 S.2.1 dX11_forget_5 rfl (lv_at hl 0 rfl) ?_
  refine lv_iload_n S.1 S.2.1 dX11_forget_6 rfl (lv_at hl 1 rfl) ?_
  obtain ⟨k3, h⟩ := h
  refine mz_V S hG hM hS cf_10 k3 (As := [.int x1]) (rest := [.ref o]) (c_X11_forgets h) yf_X11_forgets tw_1650 tw_1652 ts_40 ⟨Nat.le_of_ble_eq_true rfl, Nat.le_of_ble_eq_true rfl⟩ ⟨(Nat.le_of_ble_eq_true rfl), (Nat.le_of_ble_eq_true rfl)⟩ rfl hl.1 rfl (Nat.le_of_ble_eq_true rfl) dX11_forget_7 (fun v9 μ5 H locs hp hM hS => ?_)
  obtain ⟨u4, rfl, h⟩ := hp
  refine W.cs (cells' := 0) (slots' := 0) rfl rfl ?_
  obtain ⟨k6, h⟩ := h
  refine mz_V S hG hM hS cf_10 k6 (As := [.int u4]) (rest := []) (c_X11_ends h) yf_X11_ends tw_1570 tw_1572 ts_26 ⟨Nat.le_of_ble_eq_true rfl, Nat.le_of_ble_eq_true rfl⟩ ⟨(Nat.le_of_ble_eq_true rfl), (Nat.le_of_ble_eq_true rfl)⟩ rfl hl.1 rfl (Nat.le_of_ble_eq_true rfl) dX11_forget_10 (fun v9 μ8 H locs hp hM hS => ?_)
  obtain ⟨u7, rfl, h⟩ := hp
  refine W.cs (cells' := 0) (slots' := 0) rfl rfl ?_
  exact mz_iret S hr hlk hM hS rfl (Nat.le_of_ble_eq_true rfl) (Nat.le_of_ble_eq_true rfl) dX11_forget_13 ⟨_, rfl, h⟩
set_option maxRecDepth 100000 in
set_option maxHeartbeats 4000000 in
theorem c_X11_advance {l : Launch} {G : mgT} {μ : mmT} {o : Nat} {x1 : Int32} {Q : Int32 → mmT → Prop} (h : w_X11_advance G μ o x1 Q) : MC G l yX11_advance cX11_advance 2 (some .int) { frames := 5, cells := 0, slots := 0, locals := 117 } [.ref o, .int x1] μ (pI Q) := by
  refine mz_MC (by decide +kernel) (Nat.le_of_ble_eq_true rfl) (fun p e s m args below meth c S hG hr hlk hnm => ?_)
  intro H locs ls hM hS hl
  have hl : lv_has ls 2 [(0, .ref o), (1, .int x1)] := hl
  unfold w_X11_advance at h
  refine lv_aload_n S.1 S.2.1 dX11_advance_0 rfl (lv_at hl 0 rfl) ?_
  obtain ⟨k1, h⟩ := h
  refine mz_V S hG hM hS cf_10 k1 (As := []) (rest := []) (c_X11_remembersAll h) yf_X11_remembersAll tw_1551 tw_1553 ts_22 ⟨Nat.le_of_ble_eq_true rfl, Nat.le_of_ble_eq_true rfl⟩ ⟨(Nat.le_of_ble_eq_true rfl), (Nat.le_of_ble_eq_true rfl)⟩ rfl hl.1 rfl (Nat.le_of_ble_eq_true rfl) dX11_advance_1 (fun v9 μ2 H locs hp hM hS => ?_)
  obtain ⟨rfl, h⟩ := hp
  refine W.cs (cells' := 0) (slots' := 0) rfl rfl ?_
  refine lv_aload_n S.1 S.2.1 dX11_advance_4 rfl (lv_at hl 0 rfl) ?_
  refine lv_aload_n S.1 S.2.1 dX11_advance_5 rfl (lv_at hl 0 rfl) ?_
  refine lv_iload_n S.1 S.2.1 dX11_advance_6 rfl (lv_at hl 1 rfl) ?_
  obtain ⟨k3, h⟩ := h
  refine mz_V S hG hM hS cf_10 k3 (As := [.int x1]) (rest := [.ref o]) (c_X11_passes h) yf_X11_passes tw_1658 tw_1660 ts_41 ⟨Nat.le_of_ble_eq_true rfl, Nat.le_of_ble_eq_true rfl⟩ ⟨(Nat.le_of_ble_eq_true rfl), (Nat.le_of_ble_eq_true rfl)⟩ rfl hl.1 rfl (Nat.le_of_ble_eq_true rfl) dX11_advance_7 (fun v9 μ5 H locs hp hM hS => ?_)
  obtain ⟨u4, rfl, h⟩ := hp
  refine W.cs (cells' := 0) (slots' := 0) rfl rfl ?_
  obtain ⟨k6, h⟩ := h
  refine mz_V S hG hM hS cf_10 k6 (As := [.int u4]) (rest := []) (c_X11_ends h) yf_X11_ends tw_1570 tw_1572 ts_26 ⟨Nat.le_of_ble_eq_true rfl, Nat.le_of_ble_eq_true rfl⟩ ⟨(Nat.le_of_ble_eq_true rfl), (Nat.le_of_ble_eq_true rfl)⟩ rfl hl.1 rfl (Nat.le_of_ble_eq_true rfl) dX11_advance_10 (fun v9 μ8 H locs hp hM hS => ?_)
  obtain ⟨u7, rfl, h⟩ := hp
  refine W.cs (cells' := 0) (slots' := 0) rfl rfl ?_
  exact mz_iret S hr hlk hM hS rfl (Nat.le_of_ble_eq_true rfl) (Nat.le_of_ble_eq_true rfl) dX11_advance_13 ⟨_, rfl, h⟩
set_option maxRecDepth 100000 in
set_option maxHeartbeats 4000000 in
theorem c_X11_nestCount {l : Launch} {G : mgT} {μ : mmT} {o : Nat} {Q : Int32 → mmT → Prop} (h : w_X11_nestCount G μ o Q) : MC G l yX11_nestCount cX11_nestCount 1 (some .int) { frames := 0, cells := 0, slots := 0, locals := 0 } [.ref o] μ (pI Q) := by
  refine mz_MC (by decide +kernel) (Nat.le_of_ble_eq_true rfl) (fun p e s m args below meth c S hG hr hlk hnm => ?_)
  intro H locs ls hM hS hl
  have hl : lv_has ls 1 [(0, .ref o)] := hl
  unfold w_X11_nestCount at h
  refine lv_aload_n S.1 S.2.1 dX11_nestCount_0 rfl (lv_at hl 0 rfl) ?_
  refine lv_iconst (v := (nI 0)) S.1 S.2.1 dX11_nestCount_1 (by decide) ?_
  obtain ⟨k1, h⟩ := h
  refine mz_puti S hG hM hS cf_10 fd_320 tw_1482 dX11_nestCount_2 k1 rfl rfl (fun H locs hM hS hz9 => ?_)
  refine lv_aload_n S.1 S.2.1 dX11_nestCount_5 rfl (lv_at hl 0 rfl) ?_
  refine mz_getr S hG hM cf_10 fd_321 tw_1483 dX11_nestCount_6 k1 ?_
  refine lv_iconst (v := (nI 0)) S.1 S.2.1 dX11_nestCount_9 (by decide) ?_
  obtain ⟨a2, e3, h⟩ := h
  refine mz_o1 e3 ?_
  obtain ⟨k4, h⟩ := h
  obtain ⟨b5, h⟩ := h
  refine mz_iald S hG hM dX11_nestCount_10 k4 b5 ?_
  exact mz_iret S hr hlk hM hS rfl (Nat.le_of_ble_eq_true rfl) (Nat.le_of_ble_eq_true rfl) dX11_nestCount_11 ⟨_, rfl, h⟩
set_option maxRecDepth 100000 in
set_option maxHeartbeats 4000000 in
theorem c_X11_askedNest {l : Launch} {G : mgT} {μ : mmT} {o : Nat} {x1 : Int32} {x2 : Int32} {Q : Int32 → mmT → Prop} (h : w_X11_askedNest G μ o x1 x2 Q) : MC G l yX11_askedNest cX11_askedNest 3 (some .int) { frames := 2, cells := 0, slots := 0, locals := 43 } [.ref o, .int x1, .int x2] μ (pI Q) := by
  refine mz_MC (by decide +kernel) (Nat.le_of_ble_eq_true rfl) (fun p e s m args below meth c S hG hr hlk hnm => ?_)
  have hB34 : ∀ (s0 : Int32) (μ : mmT) (H : Heap) (locs : List Loc) (ls : Array Slot), Mm G μ H → va_S (Ah G) s.heap H locs → lv_has ls 3 [(0, .ref o)] → w_X11_askedNest_b34 G o Q  s0 μ → W p l e { frames := 2, cells := 0, slots := 0, locals := 43 } s m args below meth c H locs 0 0 (MQ below (mQ G (pI Q)) args s 0 0 (Ah G)) (F0 m 34 ls [.int s0]) := by
    intro  s0 μ H locs ls hM hS hl h
    unfold w_X11_askedNest_b34 at h
    exact mz_iret S hr hlk hM hS rfl (Nat.le_of_ble_eq_true rfl) (Nat.le_of_ble_eq_true rfl) dX11_askedNest_34 ⟨_, rfl, h⟩
  have hB14 : ∀ (x1 : Int32) (x2 : Int32) (s0 : Option Nat) (s1 : Int32) (μ : mmT) (H : Heap) (locs : List Loc) (ls : Array Slot), Mm G μ H → va_S (Ah G) s.heap H locs → lv_has ls 3 [(0, .ref o), (1, .int x1), (2, .int x2)] → w_X11_askedNest_b14 G o Q  x1 x2 s0 s1 μ → W p l e { frames := 2, cells := 0, slots := 0, locals := 43 } s m args below meth c H locs 0 0 (MQ below (mQ G (pI Q)) args s 0 0 (Ah G)) (F0 m 14 ls [.int s1, va_rf s0]) := by
    intro  x1 x2 s0 s1 μ H locs ls hM hS hl h
    unfold w_X11_askedNest_b14 at h
    obtain ⟨a4, e5, h⟩ := h
    refine mz_o1 e5 ?_
    obtain ⟨k6, h⟩ := h
    refine mz_puti S hG hM hS cf_10 fd_320 tw_1482 dX11_askedNest_14 k6 rfl rfl (fun H locs hM hS hz9 => ?_)
    refine lv_aload_n S.1 S.2.1 dX11_askedNest_17 rfl (lv_at hl 0 rfl) ?_
    obtain ⟨k7, h⟩ := h
    refine mz_geti S hG hM cf_10 fd_320 tw_1482 dX11_askedNest_18 k7 ?_
    refine lv_if_le (tgt := 28) S.1 S.2.1 dX11_askedNest_21 (by decide) (fun c8 => ?_) (fun c8 => ?_)
    · have h := h.1 c8
      refine lv_aload_n S.1 S.2.1 dX11_askedNest_28 rfl (lv_at hl 0 rfl) ?_
      refine lv_iload_n S.1 S.2.1 dX11_askedNest_29 rfl (lv_at hl 1 rfl) ?_
      refine lv_iload_n S.1 S.2.1 dX11_askedNest_30 rfl (lv_at hl 2 rfl) ?_
      refine mz_V S hG hM hS cf_10 k7 (As := [.int x1, .int x2]) (rest := []) (c_X11_nest h) yf_X11_nest tw_1614 tw_1616 ts_34 ⟨Nat.le_of_ble_eq_true rfl, Nat.le_of_ble_eq_true rfl⟩ ⟨(Nat.le_of_ble_eq_true rfl), (Nat.le_of_ble_eq_true rfl)⟩ rfl hl.1 rfl (Nat.le_of_ble_eq_true rfl) dX11_askedNest_31 (fun v9 μ9 H locs hp hM hS => ?_)
      obtain ⟨u9, rfl, e9, h⟩ := hp
      rw [e9] at hM
      refine W.cs (cells' := 0) (slots' := 0) rfl rfl ?_
      exact hB34  u9 (sI μ 320 a4 s1) H locs ls hM hS (lv_sub hl [0] rfl) h
    · have h := h.2 c8
      refine lv_iconst (v := (nI 0)) S.1 S.2.1 dX11_askedNest_24 (by decide) ?_
      refine lv_goto (tgt := 34) S.1 S.2.1 dX11_askedNest_25 (by decide) ?_
      exact hB34  (nI 0) (sI μ 320 a4 s1) H locs ls hM hS (lv_sub hl [0] rfl) h
  intro H locs ls hM hS hl
  have hl : lv_has ls 3 [(0, .ref o), (1, .int x1), (2, .int x2)] := hl
  unfold w_X11_askedNest at h
  refine lv_aload_n S.1 S.2.1 dX11_askedNest_0 rfl (lv_at hl 0 rfl) ?_
  refine lv_aload_n S.1 S.2.1 dX11_askedNest_1 rfl (lv_at hl 0 rfl) ?_
  refine lv_iload_n S.1 S.2.1 dX11_askedNest_2 rfl (lv_at hl 1 rfl) ?_
  obtain ⟨k1, h⟩ := h
  refine mz_V S hG hM hS cf_10 k1 (As := [.int x1]) (rest := [.ref o]) (c_X11_isNest h) yf_X11_isNest tw_1598 tw_1600 ts_31 ⟨Nat.le_of_ble_eq_true rfl, Nat.le_of_ble_eq_true rfl⟩ ⟨(Nat.le_of_ble_eq_true rfl), (Nat.le_of_ble_eq_true rfl)⟩ rfl hl.1 rfl (Nat.le_of_ble_eq_true rfl) dX11_askedNest_3 (fun v9 μ9 H locs hp hM hS => ?_)
  obtain ⟨u2, rfl, e9, h⟩ := hp
  rw [e9] at hM
  refine W.cs (cells' := 0) (slots' := 0) rfl rfl ?_
  refine lv_if_eq (tgt := 13) S.1 S.2.1 dX11_askedNest_6 (by decide) (fun c3 => ?_) (fun c3 => ?_)
  · have h := h.1 c3
    refine lv_iconst (v := (nI 1)) S.1 S.2.1 dX11_askedNest_13 (by decide) ?_
    exact hB14  x1 x2 (some o) (nI 1) μ H locs ls hM hS (lv_sub hl [0, 1, 2] rfl) h
  · have h := h.2 c3
    refine lv_iconst (v := (nI 0)) S.1 S.2.1 dX11_askedNest_9 (by decide) ?_
    refine lv_goto (tgt := 14) S.1 S.2.1 dX11_askedNest_10 (by decide) ?_
    exact hB14  x1 x2 (some o) (nI 0) μ H locs ls hM hS (lv_sub hl [0, 1, 2] rfl) h
set_option maxRecDepth 100000 in
set_option maxHeartbeats 4000000 in
theorem c_X11_distance {l : Launch} {G : mgT} {μ : mmT} {o : Nat} {x1 : Int32} {Q : Int32 → mmT → Prop} (h : w_X11_distance G μ o x1 Q) : MC G l yX11_distance cX11_distance 2 (some .int) { frames := 3, cells := 0, slots := 0, locals := 65 } [.ref o, .int x1] μ (pI Q) := by
  refine mz_MC (by decide +kernel) (Nat.le_of_ble_eq_true rfl) (fun p e s m args below meth c S hG hr hlk hnm => ?_)
  intro H locs ls hM hS hl
  have hl : lv_has ls 2 [(0, .ref o), (1, .int x1)] := hl
  unfold w_X11_distance at h
  refine lv_aload_n S.1 S.2.1 dX11_distance_0 rfl (lv_at hl 0 rfl) ?_
  refine lv_iload_n S.1 S.2.1 dX11_distance_1 rfl (lv_at hl 1 rfl) ?_
  refine lv_iconst (v := (nI 0)) S.1 S.2.1 dX11_distance_2 (by decide) ?_
  obtain ⟨k1, h⟩ := h
  refine mz_V S hG hM hS cf_10 k1 (As := [.int x1, .int (nI 0)]) (rest := []) (c_X11_askedNest h) yf_X11_askedNest tw_1694 tw_1696 ts_48 ⟨Nat.le_of_ble_eq_true rfl, Nat.le_of_ble_eq_true rfl⟩ ⟨(Nat.le_of_ble_eq_true rfl), (Nat.le_of_ble_eq_true rfl)⟩ rfl hl.1 rfl (Nat.le_of_ble_eq_true rfl) dX11_distance_3 (fun v9 μ3 H locs hp hM hS => ?_)
  obtain ⟨u2, rfl, h⟩ := hp
  refine W.cs (cells' := 0) (slots' := 0) rfl rfl ?_
  exact mz_iret S hr hlk hM hS rfl (Nat.le_of_ble_eq_true rfl) (Nat.le_of_ble_eq_true rfl) dX11_distance_6 ⟨_, rfl, h⟩
set_option maxRecDepth 100000 in
set_option maxHeartbeats 4000000 in
theorem c_X11_loss {l : Launch} {G : mgT} {μ : mmT} {o : Nat} {x1 : Int32} {Q : Int32 → mmT → Prop} (h : w_X11_loss G μ o x1 Q) : MC G l yX11_loss cX11_loss 2 (some .int) { frames := 3, cells := 0, slots := 0, locals := 65 } [.ref o, .int x1] μ (pI Q) := by
  refine mz_MC (by decide +kernel) (Nat.le_of_ble_eq_true rfl) (fun p e s m args below meth c S hG hr hlk hnm => ?_)
  intro H locs ls hM hS hl
  have hl : lv_has ls 2 [(0, .ref o), (1, .int x1)] := hl
  unfold w_X11_loss at h
  refine lv_aload_n S.1 S.2.1 dX11_loss_0 rfl (lv_at hl 0 rfl) ?_
  refine lv_iload_n S.1 S.2.1 dX11_loss_1 rfl (lv_at hl 1 rfl) ?_
  refine lv_iconst (v := (nI 1)) S.1 S.2.1 dX11_loss_2 (by decide) ?_
  obtain ⟨k1, h⟩ := h
  refine mz_V S hG hM hS cf_10 k1 (As := [.int x1, .int (nI 1)]) (rest := []) (c_X11_askedNest h) yf_X11_askedNest tw_1694 tw_1696 ts_48 ⟨Nat.le_of_ble_eq_true rfl, Nat.le_of_ble_eq_true rfl⟩ ⟨(Nat.le_of_ble_eq_true rfl), (Nat.le_of_ble_eq_true rfl)⟩ rfl hl.1 rfl (Nat.le_of_ble_eq_true rfl) dX11_loss_3 (fun v9 μ3 H locs hp hM hS => ?_)
  obtain ⟨u2, rfl, h⟩ := hp
  refine W.cs (cells' := 0) (slots' := 0) rfl rfl ?_
  exact mz_iret S hr hlk hM hS rfl (Nat.le_of_ble_eq_true rfl) (Nat.le_of_ble_eq_true rfl) dX11_loss_6 ⟨_, rfl, h⟩
set_option maxRecDepth 100000 in
set_option maxHeartbeats 4000000 in
theorem c_X11_inboxSize {l : Launch} {G : mgT} {μ : mmT} {o : Nat} {x1 : Int32} {Q : Int32 → mmT → Prop} (h : w_X11_inboxSize G μ o x1 Q) : MC G l yX11_inboxSize cX11_inboxSize 2 (some .int) { frames := 3, cells := 0, slots := 0, locals := 65 } [.ref o, .int x1] μ (pI Q) := by
  refine mz_MC (by decide +kernel) (Nat.le_of_ble_eq_true rfl) (fun p e s m args below meth c S hG hr hlk hnm => ?_)
  intro H locs ls hM hS hl
  have hl : lv_has ls 2 [(0, .ref o), (1, .int x1)] := hl
  unfold w_X11_inboxSize at h
  refine lv_aload_n S.1 S.2.1 dX11_inboxSize_0 rfl (lv_at hl 0 rfl) ?_
  refine lv_iload_n S.1 S.2.1 dX11_inboxSize_1 rfl (lv_at hl 1 rfl) ?_
  refine lv_iconst (v := (nI 2)) S.1 S.2.1 dX11_inboxSize_2 (by decide) ?_
  obtain ⟨k1, h⟩ := h
  refine mz_V S hG hM hS cf_10 k1 (As := [.int x1, .int (nI 2)]) (rest := []) (c_X11_askedNest h) yf_X11_askedNest tw_1694 tw_1696 ts_48 ⟨Nat.le_of_ble_eq_true rfl, Nat.le_of_ble_eq_true rfl⟩ ⟨(Nat.le_of_ble_eq_true rfl), (Nat.le_of_ble_eq_true rfl)⟩ rfl hl.1 rfl (Nat.le_of_ble_eq_true rfl) dX11_inboxSize_3 (fun v9 μ3 H locs hp hM hS => ?_)
  obtain ⟨u2, rfl, h⟩ := hp
  refine W.cs (cells' := 0) (slots' := 0) rfl rfl ?_
  exact mz_iret S hr hlk hM hS rfl (Nat.le_of_ble_eq_true rfl) (Nat.le_of_ble_eq_true rfl) dX11_inboxSize_6 ⟨_, rfl, h⟩
set_option maxRecDepth 100000 in
set_option maxHeartbeats 4000000 in
theorem c_X11_inboxMessage {l : Launch} {G : mgT} {μ : mmT} {o : Nat} {x1 : Int32} {x2 : Int32} {Q : Int32 → mmT → Prop} (h : w_X11_inboxMessage G μ o x1 x2 Q) : MC G l yX11_inboxMessage cX11_inboxMessage 3 (some .int) { frames := 2, cells := 0, slots := 0, locals := 43 } [.ref o, .int x1, .int x2] μ (pI Q) := by
  refine mz_MC (by decide +kernel) (Nat.le_of_ble_eq_true rfl) (fun p e s m args below meth c S hG hr hlk hnm => ?_)
  have hB56 : ∀ (s0 : Int32) (μ : mmT) (H : Heap) (locs : List Loc) (ls : Array Slot), Mm G μ H → va_S (Ah G) s.heap H locs → lv_has ls 3 [(0, .ref o)] → w_X11_inboxMessage_b56 G o Q  s0 μ → W p l e { frames := 2, cells := 0, slots := 0, locals := 43 } s m args below meth c H locs 0 0 (MQ below (mQ G (pI Q)) args s 0 0 (Ah G)) (F0 m 56 ls [.int s0]) := by
    intro  s0 μ H locs ls hM hS hl h
    unfold w_X11_inboxMessage_b56 at h
    exact mz_iret S hr hlk hM hS rfl (Nat.le_of_ble_eq_true rfl) (Nat.le_of_ble_eq_true rfl) dX11_inboxMessage_56 ⟨_, rfl, h⟩
  have hB34 : ∀ (x1 : Int32) (x2 : Int32) (s0 : Option Nat) (s1 : Int32) (μ : mmT) (H : Heap) (locs : List Loc) (ls : Array Slot), Mm G μ H → va_S (Ah G) s.heap H locs → lv_has ls 3 [(0, .ref o), (1, .int x1), (2, .int x2)] → w_X11_inboxMessage_b34 G o Q  x1 x2 s0 s1 μ → W p l e { frames := 2, cells := 0, slots := 0, locals := 43 } s m args below meth c H locs 0 0 (MQ below (mQ G (pI Q)) args s 0 0 (Ah G)) (F0 m 34 ls [.int s1, va_rf s0]) := by
    intro  x1 x2 s0 s1 μ H locs ls hM hS hl h
    unfold w_X11_inboxMessage_b34 at h
    obtain ⟨a7, e8, h⟩ := h
    refine mz_o1 e8 ?_
    obtain ⟨k9, h⟩ := h
    refine mz_puti S hG hM hS cf_10 fd_320 tw_1482 dX11_inboxMessage_34 k9 rfl rfl (fun H locs hM hS hz9 => ?_)
    refine lv_aload_n S.1 S.2.1 dX11_inboxMessage_37 rfl (lv_at hl 0 rfl) ?_
    obtain ⟨k10, h⟩ := h
    refine mz_geti S hG hM cf_10 fd_320 tw_1482 dX11_inboxMessage_38 k10 ?_
    refine lv_if_le (tgt := 48) S.1 S.2.1 dX11_inboxMessage_41 (by decide) (fun c11 => ?_) (fun c11 => ?_)
    · have h := h.1 c11
      refine lv_aload_n S.1 S.2.1 dX11_inboxMessage_48 rfl (lv_at hl 0 rfl) ?_
      refine lv_iload_n S.1 S.2.1 dX11_inboxMessage_49 rfl (lv_at hl 1 rfl) ?_
      refine lv_iconst (v := (nI 3)) S.1 S.2.1 dX11_inboxMessage_50 (by decide) ?_
      refine lv_iload_n S.1 S.2.1 dX11_inboxMessage_51 rfl (lv_at hl 2 rfl) ?_
      refine lv_iadd S.1 S.2.1 dX11_inboxMessage_52 ?_
      refine mz_V S hG hM hS cf_10 k10 (As := [.int x1, .int ((nI 3) + x2)]) (rest := []) (c_X11_nest h) yf_X11_nest tw_1614 tw_1616 ts_34 ⟨Nat.le_of_ble_eq_true rfl, Nat.le_of_ble_eq_true rfl⟩ ⟨(Nat.le_of_ble_eq_true rfl), (Nat.le_of_ble_eq_true rfl)⟩ rfl hl.1 rfl (Nat.le_of_ble_eq_true rfl) dX11_inboxMessage_53 (fun v9 μ9 H locs hp hM hS => ?_)
      obtain ⟨u12, rfl, e9, h⟩ := hp
      rw [e9] at hM
      refine W.cs (cells' := 0) (slots' := 0) rfl rfl ?_
      exact hB56  u12 (sI μ 320 a7 s1) H locs ls hM hS (lv_sub hl [0] rfl) h
    · have h := h.2 c11
      refine lv_iconst (v := (nI 0)) S.1 S.2.1 dX11_inboxMessage_44 (by decide) ?_
      refine lv_goto (tgt := 56) S.1 S.2.1 dX11_inboxMessage_45 (by decide) ?_
      exact hB56  (nI 0) (sI μ 320 a7 s1) H locs ls hM hS (lv_sub hl [0] rfl) h
  intro H locs ls hM hS hl
  have hl : lv_has ls 3 [(0, .ref o), (1, .int x1), (2, .int x2)] := hl
  unfold w_X11_inboxMessage at h
  refine lv_aload_n S.1 S.2.1 dX11_inboxMessage_0 rfl (lv_at hl 0 rfl) ?_
  refine lv_aload_n S.1 S.2.1 dX11_inboxMessage_1 rfl (lv_at hl 0 rfl) ?_
  refine lv_iload_n S.1 S.2.1 dX11_inboxMessage_2 rfl (lv_at hl 1 rfl) ?_
  obtain ⟨k1, h⟩ := h
  refine mz_V S hG hM hS cf_10 k1 (As := [.int x1]) (rest := [.ref o]) (c_X11_isNest h) yf_X11_isNest tw_1598 tw_1600 ts_31 ⟨Nat.le_of_ble_eq_true rfl, Nat.le_of_ble_eq_true rfl⟩ ⟨(Nat.le_of_ble_eq_true rfl), (Nat.le_of_ble_eq_true rfl)⟩ rfl hl.1 rfl (Nat.le_of_ble_eq_true rfl) dX11_inboxMessage_3 (fun v9 μ9 H locs hp hM hS => ?_)
  obtain ⟨u2, rfl, e9, h⟩ := hp
  rw [e9] at hM
  refine W.cs (cells' := 0) (slots' := 0) rfl rfl ?_
  refine lv_if_ne (tgt := 13) S.1 S.2.1 dX11_inboxMessage_6 (by decide) (fun c3 => ?_) (fun c3 => ?_)
  · have h := h.1 c3
    refine lv_iload_n S.1 S.2.1 dX11_inboxMessage_13 rfl (lv_at hl 2 rfl) ?_
    refine lv_iconst (v := (nI 0)) S.1 S.2.1 dX11_inboxMessage_14 (by decide) ?_
    refine lv_aload_n S.1 S.2.1 dX11_inboxMessage_15 rfl (lv_at hl 0 rfl) ?_
    refine lv_iload_n S.1 S.2.1 dX11_inboxMessage_16 rfl (lv_at hl 1 rfl) ?_
    refine lv_iconst (v := (nI 2)) S.1 S.2.1 dX11_inboxMessage_17 (by decide) ?_
    refine mz_V S hG hM hS cf_10 k1 (As := [.int x1, .int (nI 2)]) (rest := [.int (nI 0), .int x2, .ref o]) (c_X11_nest h) yf_X11_nest tw_1614 tw_1616 ts_34 ⟨Nat.le_of_ble_eq_true rfl, Nat.le_of_ble_eq_true rfl⟩ ⟨(Nat.le_of_ble_eq_true rfl), (Nat.le_of_ble_eq_true rfl)⟩ rfl hl.1 rfl (Nat.le_of_ble_eq_true rfl) dX11_inboxMessage_18 (fun v9 μ9 H locs hp hM hS => ?_)
    obtain ⟨u4, rfl, e9, h⟩ := hp
    rw [e9] at hM
    refine W.cs (cells' := 0) (slots' := 0) rfl rfl ?_
    refine lv_iconst (v := (nI 1)) S.1 S.2.1 dX11_inboxMessage_21 (by decide) ?_
    refine lv_isub S.1 S.2.1 dX11_inboxMessage_22 ?_
    refine mz_S S hG hM hS (As := [.int x2, .int (nI 0), .int (u4 - (nI 1))]) (rest := [.ref o]) (c_X11_in h) yf_X11_in tw_1559 tw_1560 ⟨Nat.le_of_ble_eq_true rfl, Nat.le_of_ble_eq_true rfl⟩ ⟨(Nat.le_of_ble_eq_true rfl), (Nat.le_of_ble_eq_true rfl)⟩ rfl hl.1 rfl (Nat.le_of_ble_eq_true rfl) dX11_inboxMessage_23 (fun v9 μ9 H locs hp hM hS => ?_)
    obtain ⟨u5, rfl, e9, h⟩ := hp
    rw [e9] at hM
    refine W.cs (cells' := 0) (slots' := 0) rfl rfl ?_
    refine lv_if_eq (tgt := 33) S.1 S.2.1 dX11_inboxMessage_26 (by decide) (fun c6 => ?_) (fun c6 => ?_)
    · have h := h.1 c6
      refine lv_iconst (v := (nI 2)) S.1 S.2.1 dX11_inboxMessage_33 (by decide) ?_
      exact hB34  x1 x2 (some o) (nI 2) μ H locs ls hM hS (lv_sub hl [0, 1, 2] rfl) h
    · have h := h.2 c6
      refine lv_iconst (v := (nI 0)) S.1 S.2.1 dX11_inboxMessage_29 (by decide) ?_
      refine lv_goto (tgt := 34) S.1 S.2.1 dX11_inboxMessage_30 (by decide) ?_
      exact hB34  x1 x2 (some o) (nI 0) μ H locs ls hM hS (lv_sub hl [0, 1, 2] rfl) h
  · have h := h.2 c3
    refine lv_iconst (v := (nI 1)) S.1 S.2.1 dX11_inboxMessage_9 (by decide) ?_
    refine lv_goto (tgt := 34) S.1 S.2.1 dX11_inboxMessage_10 (by decide) ?_
    exact hB34  x1 x2 (some o) (nI 1) μ H locs ls hM hS (lv_sub hl [0, 1, 2] rfl) h
set_option maxRecDepth 100000 in
set_option maxHeartbeats 4000000 in
theorem c_X11_remembers {l : Launch} {G : mgT} {μ : mmT} {o : Nat} {x1 : Int32} {x2 : Int32} {Q : Int32 → mmT → Prop} (h : w_X11_remembers G μ o x1 x2 Q) : MC G l yX11_remembers cX11_remembers 3 (some .boolean) { frames := 2, cells := 0, slots := 0, locals := 45 } [.ref o, .int x1, .int x2] μ (pI Q) := by
  refine mz_MC (by decide +kernel) (Nat.le_of_ble_eq_true rfl) (fun p e s m args below meth c S hG hr hlk hnm => ?_)
  have hB38 : ∀ (s0 : Int32) (μ : mmT) (H : Heap) (locs : List Loc) (ls : Array Slot), Mm G μ H → va_S (Ah G) s.heap H locs → lv_has ls 3 [(0, .ref o)] → w_X11_remembers_b38 G o Q  s0 μ → W p l e { frames := 2, cells := 0, slots := 0, locals := 45 } s m args below meth c H locs 0 0 (MQ below (mQ G (pI Q)) args s 0 0 (Ah G)) (F0 m 38 ls [.int s0]) := by
    intro  s0 μ H locs ls hM hS hl h
    unfold w_X11_remembers_b38 at h
    obtain ⟨f9, h⟩ := h
    exact mz_iret S hr hlk hM hS (mz_nZ f9) (Nat.le_of_ble_eq_true rfl) (Nat.le_of_ble_eq_true rfl) dX11_remembers_38 ⟨_, rfl, h⟩
  have hB37 : ∀ (μ : mmT) (H : Heap) (locs : List Loc) (ls : Array Slot), Mm G μ H → va_S (Ah G) s.heap H locs → lv_has ls 3 [(0, .ref o)] → w_X11_remembers_b37 G o Q  μ → W p l e { frames := 2, cells := 0, slots := 0, locals := 45 } s m args below meth c H locs 0 0 (MQ below (mQ G (pI Q)) args s 0 0 (Ah G)) (F0 m 37 ls []) := by
    intro  μ H locs ls hM hS hl h
    unfold w_X11_remembers_b37 at h
    refine lv_iconst (v := (nI 0)) S.1 S.2.1 dX11_remembers_37 (by decide) ?_
    exact hB38  (nI 0) μ H locs ls hM hS (lv_sub hl [0] rfl) h
  have hB14 : ∀ (x1 : Int32) (x2 : Int32) (s0 : Option Nat) (s1 : Int32) (μ : mmT) (H : Heap) (locs : List Loc) (ls : Array Slot), Mm G μ H → va_S (Ah G) s.heap H locs → lv_has ls 3 [(0, .ref o), (1, .int x1), (2, .int x2)] → w_X11_remembers_b14 G o Q  x1 x2 s0 s1 μ → W p l e { frames := 2, cells := 0, slots := 0, locals := 45 } s m args below meth c H locs 0 0 (MQ below (mQ G (pI Q)) args s 0 0 (Ah G)) (F0 m 14 ls [.int s1, va_rf s0]) := by
    intro  x1 x2 s0 s1 μ H locs ls hM hS hl h
    unfold w_X11_remembers_b14 at h
    obtain ⟨a4, e5, h⟩ := h
    refine mz_o1 e5 ?_
    obtain ⟨k6, h⟩ := h
    refine mz_puti S hG hM hS cf_10 fd_320 tw_1482 dX11_remembers_14 k6 rfl rfl (fun H locs hM hS hz9 => ?_)
    refine lv_aload_n S.1 S.2.1 dX11_remembers_17 rfl (lv_at hl 0 rfl) ?_
    obtain ⟨k7, h⟩ := h
    refine mz_geti S hG hM cf_10 fd_320 tw_1482 dX11_remembers_18 k7 ?_
    refine lv_if_ne (tgt := 37) S.1 S.2.1 dX11_remembers_21 (by decide) (fun c8 => ?_) (fun c8 => ?_)
    · have h := h.1 c8
      exact hB37  (sI μ 320 a4 s1) H locs ls hM hS (lv_sub hl [0] rfl) h
    · have h := h.2 c8
      refine lv_aload_n S.1 S.2.1 dX11_remembers_24 rfl (lv_at hl 0 rfl) ?_
      refine lv_iload_n S.1 S.2.1 dX11_remembers_25 rfl (lv_at hl 1 rfl) ?_
      refine lv_iload_n S.1 S.2.1 dX11_remembers_26 rfl (lv_at hl 2 rfl) ?_
      refine mz_V S hG hM hS cf_10 k7 (As := [.int x1, .int x2]) (rest := []) (c_X11_knows h) yf_X11_knows tw_1674 tw_1676 ts_45 ⟨Nat.le_of_ble_eq_true rfl, Nat.le_of_ble_eq_true rfl⟩ ⟨(Nat.le_of_ble_eq_true rfl), (Nat.le_of_ble_eq_true rfl)⟩ rfl hl.1 rfl (Nat.le_of_ble_eq_true rfl) dX11_remembers_27 (fun v9 μ9 H locs hp hM hS => ?_)
      obtain ⟨u10, rfl, e9, h⟩ := hp
      rw [e9] at hM
      refine W.cs (cells' := 0) (slots' := 0) rfl rfl ?_
      refine lv_if_eq (tgt := 37) S.1 S.2.1 dX11_remembers_30 (by decide) (fun c11 => ?_) (fun c11 => ?_)
      · have h := h.1 c11
        exact hB37  (sI μ 320 a4 s1) H locs ls hM hS (lv_sub hl [0] rfl) h
      · have h := h.2 c11
        refine lv_iconst (v := (nI 1)) S.1 S.2.1 dX11_remembers_33 (by decide) ?_
        refine lv_goto (tgt := 38) S.1 S.2.1 dX11_remembers_34 (by decide) ?_
        exact hB38  (nI 1) (sI μ 320 a4 s1) H locs ls hM hS (lv_sub hl [0] rfl) h
  intro H locs ls hM hS hl
  have hl : lv_has ls 3 [(0, .ref o), (1, .int x1), (2, .int x2)] := hl
  unfold w_X11_remembers at h
  refine lv_aload_n S.1 S.2.1 dX11_remembers_0 rfl (lv_at hl 0 rfl) ?_
  refine lv_aload_n S.1 S.2.1 dX11_remembers_1 rfl (lv_at hl 0 rfl) ?_
  refine lv_iload_n S.1 S.2.1 dX11_remembers_2 rfl (lv_at hl 1 rfl) ?_
  obtain ⟨k1, h⟩ := h
  refine mz_V S hG hM hS cf_10 k1 (As := [.int x1]) (rest := [.ref o]) (c_X11_isNest h) yf_X11_isNest tw_1598 tw_1600 ts_31 ⟨Nat.le_of_ble_eq_true rfl, Nat.le_of_ble_eq_true rfl⟩ ⟨(Nat.le_of_ble_eq_true rfl), (Nat.le_of_ble_eq_true rfl)⟩ rfl hl.1 rfl (Nat.le_of_ble_eq_true rfl) dX11_remembers_3 (fun v9 μ9 H locs hp hM hS => ?_)
  obtain ⟨u2, rfl, e9, h⟩ := hp
  rw [e9] at hM
  refine W.cs (cells' := 0) (slots' := 0) rfl rfl ?_
  refine lv_if_eq (tgt := 13) S.1 S.2.1 dX11_remembers_6 (by decide) (fun c3 => ?_) (fun c3 => ?_)
  · have h := h.1 c3
    refine lv_iconst (v := (nI 1)) S.1 S.2.1 dX11_remembers_13 (by decide) ?_
    exact hB14  x1 x2 (some o) (nI 1) μ H locs ls hM hS (lv_sub hl [0, 1, 2] rfl) h
  · have h := h.2 c3
    refine lv_iconst (v := (nI 0)) S.1 S.2.1 dX11_remembers_9 (by decide) ?_
    refine lv_goto (tgt := 14) S.1 S.2.1 dX11_remembers_10 (by decide) ?_
    exact hB14  x1 x2 (some o) (nI 0) μ H locs ls hM hS (lv_sub hl [0, 1, 2] rfl) h
set_option maxRecDepth 100000 in
set_option maxHeartbeats 4000000 in
theorem c_X11_rememberedCount {l : Launch} {G : mgT} {μ : mmT} {o : Nat} {x1 : Int32} {Q : Int32 → mmT → Prop} (h : w_X11_rememberedCount G μ o x1 Q) : MC G l yX11_rememberedCount cX11_rememberedCount 2 (some .int) { frames := 3, cells := 0, slots := 0, locals := 65 } [.ref o, .int x1] μ (pI Q) := by
  refine mz_MC (by decide +kernel) (Nat.le_of_ble_eq_true rfl) (fun p e s m args below meth c S hG hr hlk hnm => ?_)
  intro H locs ls hM hS hl
  have hl : lv_has ls 2 [(0, .ref o), (1, .int x1)] := hl
  unfold w_X11_rememberedCount at h
  refine lv_aload_n S.1 S.2.1 dX11_rememberedCount_0 rfl (lv_at hl 0 rfl) ?_
  refine lv_iload_n S.1 S.2.1 dX11_rememberedCount_1 rfl (lv_at hl 1 rfl) ?_
  refine lv_bipush (v := (nI 11)) S.1 S.2.1 dX11_rememberedCount_2 (by decide) ?_
  obtain ⟨k1, h⟩ := h
  refine mz_V S hG hM hS cf_10 k1 (As := [.int x1, .int (nI 11)]) (rest := []) (c_X11_askedNest h) yf_X11_askedNest tw_1694 tw_1696 ts_48 ⟨Nat.le_of_ble_eq_true rfl, Nat.le_of_ble_eq_true rfl⟩ ⟨(Nat.le_of_ble_eq_true rfl), (Nat.le_of_ble_eq_true rfl)⟩ rfl hl.1 rfl (Nat.le_of_ble_eq_true rfl) dX11_rememberedCount_4 (fun v9 μ3 H locs hp hM hS => ?_)
  obtain ⟨u2, rfl, h⟩ := hp
  refine W.cs (cells' := 0) (slots' := 0) rfl rfl ?_
  exact mz_iret S hr hlk hM hS rfl (Nat.le_of_ble_eq_true rfl) (Nat.le_of_ble_eq_true rfl) dX11_rememberedCount_7 ⟨_, rfl, h⟩
set_option maxRecDepth 100000 in
set_option maxHeartbeats 4000000 in
theorem c_X11_isAhead {l : Launch} {G : mgT} {μ : mmT} {o : Nat} {x1 : Int32} {x2 : Int32} {Q : Int32 → Prop} (h : w_X11_isAhead G μ o x1 x2 Q) : MC G l yX11_isAhead cX11_isAhead 3 (some .boolean) { frames := 1, cells := 0, slots := 0, locals := 22 } [.ref o, .int x1, .int x2] μ (pI (fun r μ' => μ' = μ ∧ Q r)) := by
  refine mz_MC (by decide +kernel) (Nat.le_of_ble_eq_true rfl) (fun p e s m args below meth c S hG hr hlk hnm => ?_)
  have hB88 : ∀ (s0 : Int32) (H : Heap) (locs : List Loc) (ls : Array Slot), Mm G μ H → va_S (Ah G) s.heap H locs → lv_has ls 3 [(0, .ref o)] → w_X11_isAhead_b88 G μ o Q  s0 → W p l e { frames := 1, cells := 0, slots := 0, locals := 22 } s m args below meth c H locs 0 0 (MQ below (mQ G (pI (fun r μ' => μ' = μ ∧ Q r))) args s 0 0 (Ah G)) (F0 m 88 ls [.int s0]) := by
    intro  s0 H locs ls hM hS hl h
    unfold w_X11_isAhead_b88 at h
    obtain ⟨f11, h⟩ := h
    exact mz_iret S hr hlk hM hS (mz_nZ f11) (Nat.le_of_ble_eq_true rfl) (Nat.le_of_ble_eq_true rfl) dX11_isAhead_88 ⟨_, rfl, rfl, h⟩
  have hB39 : ∀ (s0 : Int32) (H : Heap) (locs : List Loc) (ls : Array Slot), Mm G μ H → va_S (Ah G) s.heap H locs → lv_has ls 3 [(0, .ref o)] → w_X11_isAhead_b39 G μ o Q  s0 → W p l e { frames := 1, cells := 0, slots := 0, locals := 22 } s m args below meth c H locs 0 0 (MQ below (mQ G (pI (fun r μ' => μ' = μ ∧ Q r))) args s 0 0 (Ah G)) (F0 m 39 ls [.int s0]) := by
    intro  s0 H locs ls hM hS hl h
    unfold w_X11_isAhead_b39 at h
    obtain ⟨f16, h⟩ := h
    exact mz_iret S hr hlk hM hS (mz_nZ f16) (Nat.le_of_ble_eq_true rfl) (Nat.le_of_ble_eq_true rfl) dX11_isAhead_39 ⟨_, rfl, rfl, h⟩
  intro H locs ls hM hS hl
  have hl : lv_has ls 3 [(0, .ref o), (1, .int x1), (2, .int x2)] := hl
  unfold w_X11_isAhead at h
  refine lv_aload_n S.1 S.2.1 dX11_isAhead_0 rfl (lv_at hl 0 rfl) ?_
  refine lv_iload_n S.1 S.2.1 dX11_isAhead_1 rfl (lv_at hl 1 rfl) ?_
  refine lv_bipush (v := (nI 20)) S.1 S.2.1 dX11_isAhead_2 (by decide) ?_
  obtain ⟨k1, h⟩ := h
  refine mz_V S hG hM hS cf_10 k1 (As := [.int x1, .int (nI 20)]) (rest := []) (c_X11_nest h) yf_X11_nest tw_1614 tw_1616 ts_34 ⟨Nat.le_of_ble_eq_true rfl, Nat.le_of_ble_eq_true rfl⟩ ⟨(Nat.le_of_ble_eq_true rfl), (Nat.le_of_ble_eq_true rfl)⟩ rfl hl.1 rfl (Nat.le_of_ble_eq_true rfl) dX11_isAhead_4 (fun v9 μ9 H locs hp hM hS => ?_)
  obtain ⟨u2, rfl, e9, h⟩ := hp
  rw [e9] at hM
  refine W.cs (cells' := 0) (slots' := 0) rfl rfl ?_
  refine lv_aload_n S.1 S.2.1 dX11_isAhead_7 rfl (lv_at hl 0 rfl) ?_
  refine lv_iload_n S.1 S.2.1 dX11_isAhead_8 rfl (lv_at hl 2 rfl) ?_
  refine lv_bipush (v := (nI 20)) S.1 S.2.1 dX11_isAhead_9 (by decide) ?_
  refine mz_V S hG hM hS cf_10 k1 (As := [.int x2, .int (nI 20)]) (rest := [.int u2]) (c_X11_nest h) yf_X11_nest tw_1614 tw_1616 ts_34 ⟨Nat.le_of_ble_eq_true rfl, Nat.le_of_ble_eq_true rfl⟩ ⟨(Nat.le_of_ble_eq_true rfl), (Nat.le_of_ble_eq_true rfl)⟩ rfl hl.1 rfl (Nat.le_of_ble_eq_true rfl) dX11_isAhead_11 (fun v9 μ9 H locs hp hM hS => ?_)
  obtain ⟨u3, rfl, e9, h⟩ := hp
  rw [e9] at hM
  refine W.cs (cells' := 0) (slots' := 0) rfl rfl ?_
  refine lv_icmp_eq (tgt := 40) S.1 S.2.1 dX11_isAhead_14 (by decide) (fun c4 => ?_) (fun c4 => ?_)
  · have h := h.1 c4
    refine lv_aload_n S.1 S.2.1 dX11_isAhead_40 rfl (lv_at hl 0 rfl) ?_
    refine lv_iload_n S.1 S.2.1 dX11_isAhead_41 rfl (lv_at hl 1 rfl) ?_
    refine lv_iconst (v := (nI 0)) S.1 S.2.1 dX11_isAhead_42 (by decide) ?_
    refine mz_V S hG hM hS cf_10 k1 (As := [.int x1, .int (nI 0)]) (rest := []) (c_X11_nest h) yf_X11_nest tw_1614 tw_1616 ts_34 ⟨Nat.le_of_ble_eq_true rfl, Nat.le_of_ble_eq_true rfl⟩ ⟨(Nat.le_of_ble_eq_true rfl), (Nat.le_of_ble_eq_true rfl)⟩ rfl hl.1 rfl (Nat.le_of_ble_eq_true rfl) dX11_isAhead_43 (fun v9 μ9 H locs hp hM hS => ?_)
    obtain ⟨u5, rfl, e9, h⟩ := hp
    rw [e9] at hM
    refine W.cs (cells' := 0) (slots' := 0) rfl rfl ?_
    refine lv_aload_n S.1 S.2.1 dX11_isAhead_46 rfl (lv_at hl 0 rfl) ?_
    refine lv_iload_n S.1 S.2.1 dX11_isAhead_47 rfl (lv_at hl 2 rfl) ?_
    refine lv_iconst (v := (nI 0)) S.1 S.2.1 dX11_isAhead_48 (by decide) ?_
    refine mz_V S hG hM hS cf_10 k1 (As := [.int x2, .int (nI 0)]) (rest := [.int u5]) (c_X11_nest h) yf_X11_nest tw_1614 tw_1616 ts_34 ⟨Nat.le_of_ble_eq_true rfl, Nat.le_of_ble_eq_true rfl⟩ ⟨(Nat.le_of_ble_eq_true rfl), (Nat.le_of_ble_eq_true rfl)⟩ rfl hl.1 rfl (Nat.le_of_ble_eq_true rfl) dX11_isAhead_49 (fun v9 μ9 H locs hp hM hS => ?_)
    obtain ⟨u6, rfl, e9, h⟩ := hp
    rw [e9] at hM
    refine W.cs (cells' := 0) (slots' := 0) rfl rfl ?_
    refine lv_icmp_ne (tgt := 68) S.1 S.2.1 dX11_isAhead_52 (by decide) (fun c7 => ?_) (fun c7 => ?_)
    · have h := h.1 c7
      refine lv_aload_n S.1 S.2.1 dX11_isAhead_68 rfl (lv_at hl 0 rfl) ?_
      refine lv_iload_n S.1 S.2.1 dX11_isAhead_69 rfl (lv_at hl 1 rfl) ?_
      refine lv_iconst (v := (nI 0)) S.1 S.2.1 dX11_isAhead_70 (by decide) ?_
      refine mz_V S hG hM hS cf_10 k1 (As := [.int x1, .int (nI 0)]) (rest := []) (c_X11_nest h) yf_X11_nest tw_1614 tw_1616 ts_34 ⟨Nat.le_of_ble_eq_true rfl, Nat.le_of_ble_eq_true rfl⟩ ⟨(Nat.le_of_ble_eq_true rfl), (Nat.le_of_ble_eq_true rfl)⟩ rfl hl.1 rfl (Nat.le_of_ble_eq_true rfl) dX11_isAhead_71 (fun v9 μ9 H locs hp hM hS => ?_)
      obtain ⟨u8, rfl, e9, h⟩ := hp
      rw [e9] at hM
      refine W.cs (cells' := 0) (slots' := 0) rfl rfl ?_
      refine lv_aload_n S.1 S.2.1 dX11_isAhead_74 rfl (lv_at hl 0 rfl) ?_
      refine lv_iload_n S.1 S.2.1 dX11_isAhead_75 rfl (lv_at hl 2 rfl) ?_
      refine lv_iconst (v := (nI 0)) S.1 S.2.1 dX11_isAhead_76 (by decide) ?_
      refine mz_V S hG hM hS cf_10 k1 (As := [.int x2, .int (nI 0)]) (rest := [.int u8]) (c_X11_nest h) yf_X11_nest tw_1614 tw_1616 ts_34 ⟨Nat.le_of_ble_eq_true rfl, Nat.le_of_ble_eq_true rfl⟩ ⟨(Nat.le_of_ble_eq_true rfl), (Nat.le_of_ble_eq_true rfl)⟩ rfl hl.1 rfl (Nat.le_of_ble_eq_true rfl) dX11_isAhead_77 (fun v9 μ9 H locs hp hM hS => ?_)
      obtain ⟨u9, rfl, e9, h⟩ := hp
      rw [e9] at hM
      refine W.cs (cells' := 0) (slots' := 0) rfl rfl ?_
      refine lv_icmp_ge (tgt := 87) S.1 S.2.1 dX11_isAhead_80 (by decide) (fun c10 => ?_) (fun c10 => ?_)
      · have h := h.1 c10
        refine lv_iconst (v := (nI 0)) S.1 S.2.1 dX11_isAhead_87 (by decide) ?_
        exact hB88  (nI 0) H locs ls hM hS (lv_sub hl [0] rfl) h
      · have h := h.2 c10
        refine lv_iconst (v := (nI 1)) S.1 S.2.1 dX11_isAhead_83 (by decide) ?_
        refine lv_goto (tgt := 88) S.1 S.2.1 dX11_isAhead_84 (by decide) ?_
        exact hB88  (nI 1) H locs ls hM hS (lv_sub hl [0] rfl) h
    · have h := h.2 c7
      refine lv_iload_n S.1 S.2.1 dX11_isAhead_55 rfl (lv_at hl 1 rfl) ?_
      refine lv_iload_n S.1 S.2.1 dX11_isAhead_56 rfl (lv_at hl 2 rfl) ?_
      refine lv_icmp_ge (tgt := 64) S.1 S.2.1 dX11_isAhead_57 (by decide) (fun c12 => ?_) (fun c12 => ?_)
      · have h := h.1 c12
        refine lv_iconst (v := (nI 0)) S.1 S.2.1 dX11_isAhead_64 (by decide) ?_
        refine lv_goto (tgt := 88) S.1 S.2.1 dX11_isAhead_65 (by decide) ?_
        exact hB88  (nI 0) H locs ls hM hS (lv_sub hl [0] rfl) h
      · have h := h.2 c12
        refine lv_iconst (v := (nI 1)) S.1 S.2.1 dX11_isAhead_60 (by decide) ?_
        refine lv_goto (tgt := 88) S.1 S.2.1 dX11_isAhead_61 (by decide) ?_
        exact hB88  (nI 1) H locs ls hM hS (lv_sub hl [0] rfl) h
  · have h := h.2 c4
    refine lv_aload_n S.1 S.2.1 dX11_isAhead_17 rfl (lv_at hl 0 rfl) ?_
    refine lv_iload_n S.1 S.2.1 dX11_isAhead_18 rfl (lv_at hl 1 rfl) ?_
    refine lv_bipush (v := (nI 20)) S.1 S.2.1 dX11_isAhead_19 (by decide) ?_
    refine mz_V S hG hM hS cf_10 k1 (As := [.int x1, .int (nI 20)]) (rest := []) (c_X11_nest h) yf_X11_nest tw_1614 tw_1616 ts_34 ⟨Nat.le_of_ble_eq_true rfl, Nat.le_of_ble_eq_true rfl⟩ ⟨(Nat.le_of_ble_eq_true rfl), (Nat.le_of_ble_eq_true rfl)⟩ rfl hl.1 rfl (Nat.le_of_ble_eq_true rfl) dX11_isAhead_21 (fun v9 μ9 H locs hp hM hS => ?_)
    obtain ⟨u13, rfl, e9, h⟩ := hp
    rw [e9] at hM
    refine W.cs (cells' := 0) (slots' := 0) rfl rfl ?_
    refine lv_aload_n S.1 S.2.1 dX11_isAhead_24 rfl (lv_at hl 0 rfl) ?_
    refine lv_iload_n S.1 S.2.1 dX11_isAhead_25 rfl (lv_at hl 2 rfl) ?_
    refine lv_bipush (v := (nI 20)) S.1 S.2.1 dX11_isAhead_26 (by decide) ?_
    refine mz_V S hG hM hS cf_10 k1 (As := [.int x2, .int (nI 20)]) (rest := [.int u13]) (c_X11_nest h) yf_X11_nest tw_1614 tw_1616 ts_34 ⟨Nat.le_of_ble_eq_true rfl, Nat.le_of_ble_eq_true rfl⟩ ⟨(Nat.le_of_ble_eq_true rfl), (Nat.le_of_ble_eq_true rfl)⟩ rfl hl.1 rfl (Nat.le_of_ble_eq_true rfl) dX11_isAhead_28 (fun v9 μ9 H locs hp hM hS => ?_)
    obtain ⟨u14, rfl, e9, h⟩ := hp
    rw [e9] at hM
    refine W.cs (cells' := 0) (slots' := 0) rfl rfl ?_
    refine lv_icmp_le (tgt := 38) S.1 S.2.1 dX11_isAhead_31 (by decide) (fun c15 => ?_) (fun c15 => ?_)
    · have h := h.1 c15
      refine lv_iconst (v := (nI 0)) S.1 S.2.1 dX11_isAhead_38 (by decide) ?_
      exact hB39  (nI 0) H locs ls hM hS (lv_sub hl [0] rfl) h
    · have h := h.2 c15
      refine lv_iconst (v := (nI 1)) S.1 S.2.1 dX11_isAhead_34 (by decide) ?_
      refine lv_goto (tgt := 39) S.1 S.2.1 dX11_isAhead_35 (by decide) ?_
      exact hB39  (nI 1) H locs ls hM hS (lv_sub hl [0] rfl) h
set_option maxRecDepth 100000 in
set_option maxHeartbeats 4000000 in
theorem c_X11_nestByDeliveries {l : Launch} {G : mgT} {μ : mmT} {o : Nat} {x1 : Int32} {Q : Int32 → mmT → Prop} (h : w_X11_nestByDeliveries G μ o x1 Q) : MC G l yX11_nestByDeliveries cX11_nestByDeliveries 5 (some .int) { frames := 2, cells := 0, slots := 0, locals := 44 } [.ref o, .int x1] μ (pI Q) := by
  refine mz_MC (by decide +kernel) (Nat.le_of_ble_eq_true rfl) (fun p e s m args below meth c S hG hr hlk hnm => ?_)
  have hB55 : ∀ (K7 : Int32 → Int32 → mmT → Prop) (kK7 : ∀ (x1 : Int32) (x2 : Int32) (μ : mmT) (H : Heap) (locs : List Loc) (ls : Array Slot), Mm G μ H → va_S (Ah G) s.heap H locs → lv_has ls 5 [(0, .ref o), (1, .int x1), (2, .int x2)] → K7 x1 x2 μ → W p l e { frames := 2, cells := 0, slots := 0, locals := 44 } s m args below meth c H locs 0 0 (MQ below (mQ G (pI Q)) args s 0 0 (Ah G)) (F0 m 7 ls [])) (K22 : Int32 → Int32 → Int32 → Int32 → mmT → Prop) (kK22 : ∀ (x1 : Int32) (x2 : Int32) (x3 : Int32) (x4 : Int32) (μ : mmT) (H : Heap) (locs : List Loc) (ls : Array Slot), Mm G μ H → va_S (Ah G) s.heap H locs → lv_has ls 5 [(0, .ref o), (1, .int x1), (2, .int x2), (3, .int x3), (4, .int x4)] → K22 x1 x2 x3 x4 μ → W p l e { frames := 2, cells := 0, slots := 0, locals := 44 } s m args below meth c H locs 0 0 (MQ below (mQ G (pI Q)) args s 0 0 (Ah G)) (F0 m 22 ls [])) (x1 : Int32) (x2 : Int32) (x4 : Int32) (s0 : Int32) (s1 : Int32) (μ : mmT) (H : Heap) (locs : List Loc) (ls : Array Slot), Mm G μ H → va_S (Ah G) s.heap H locs → lv_has ls 5 [(0, .ref o), (1, .int x1), (2, .int x2), (4, .int x4)] → w_X11_nestByDeliveries_b55 G o Q K7 K22 x1 x2 x4 s0 s1 μ → W p l e { frames := 2, cells := 0, slots := 0, locals := 44 } s m args below meth c H locs 0 0 (MQ below (mQ G (pI Q)) args s 0 0 (Ah G)) (F0 m 55 ls [.int s1, .int s0]) := by
    intro K7 kK7 K22 kK22 x1 x2 x4 s0 s1 μ H locs ls hM hS hl h
    unfold w_X11_nestByDeliveries_b55 at h
    refine lv_iadd S.1 S.2.1 dX11_nestByDeliveries_55 ?_
    refine lv_istore_n (lv' := [(3, .int (s0 + s1)), (0, .ref o), (1, .int x1), (2, .int x2), (4, .int x4)]) S.1 S.2.1 dX11_nestByDeliveries_56 rfl hl (by decide) rfl (fun ls hl => ?_)
    refine lv_iinc (v := (x4 + nI 1)) (lv' := [(4, .int (x4 + nI 1)), (3, .int (s0 + s1)), (0, .ref o), (1, .int x1), (2, .int x2)]) S.1 S.2.1 dX11_nestByDeliveries_57 hl (k := 4) rfl rfl (by decide) rfl (fun ls hl => ?_)
    refine lv_goto (tgt := 22) S.1 S.2.1 dX11_nestByDeliveries_60 (by decide) ?_
    exact kK22 x1 x2 (s0 + s1) (x4 + nI 1) μ H locs ls hM hS (lv_sub hl [2, 3, 4, 1, 0] rfl) h
  have hB54 : ∀ (K7 : Int32 → Int32 → mmT → Prop) (kK7 : ∀ (x1 : Int32) (x2 : Int32) (μ : mmT) (H : Heap) (locs : List Loc) (ls : Array Slot), Mm G μ H → va_S (Ah G) s.heap H locs → lv_has ls 5 [(0, .ref o), (1, .int x1), (2, .int x2)] → K7 x1 x2 μ → W p l e { frames := 2, cells := 0, slots := 0, locals := 44 } s m args below meth c H locs 0 0 (MQ below (mQ G (pI Q)) args s 0 0 (Ah G)) (F0 m 7 ls [])) (K22 : Int32 → Int32 → Int32 → Int32 → mmT → Prop) (kK22 : ∀ (x1 : Int32) (x2 : Int32) (x3 : Int32) (x4 : Int32) (μ : mmT) (H : Heap) (locs : List Loc) (ls : Array Slot), Mm G μ H → va_S (Ah G) s.heap H locs → lv_has ls 5 [(0, .ref o), (1, .int x1), (2, .int x2), (3, .int x3), (4, .int x4)] → K22 x1 x2 x3 x4 μ → W p l e { frames := 2, cells := 0, slots := 0, locals := 44 } s m args below meth c H locs 0 0 (MQ below (mQ G (pI Q)) args s 0 0 (Ah G)) (F0 m 22 ls [])) (x1 : Int32) (x2 : Int32) (x4 : Int32) (s0 : Int32) (μ : mmT) (H : Heap) (locs : List Loc) (ls : Array Slot), Mm G μ H → va_S (Ah G) s.heap H locs → lv_has ls 5 [(0, .ref o), (1, .int x1), (2, .int x2), (4, .int x4)] → w_X11_nestByDeliveries_b54 G o Q K7 K22 x1 x2 x4 s0 μ → W p l e { frames := 2, cells := 0, slots := 0, locals := 44 } s m args below meth c H locs 0 0 (MQ below (mQ G (pI Q)) args s 0 0 (Ah G)) (F0 m 54 ls [.int s0]) := by
    intro K7 kK7 K22 kK22 x1 x2 x4 s0 μ H locs ls hM hS hl h
    unfold w_X11_nestByDeliveries_b54 at h
    refine lv_iconst (v := (nI 0)) S.1 S.2.1 dX11_nestByDeliveries_54 (by decide) ?_
    exact hB55 K7 kK7 K22 kK22 x1 x2 x4 s0 (nI 0) μ H locs ls hM hS (lv_sub hl [0, 1, 2, 3] rfl) h
  have hB22 : ∀ (K7 : Int32 → Int32 → mmT → Prop) (kK7 : ∀ (x1 : Int32) (x2 : Int32) (μ : mmT) (H : Heap) (locs : List Loc) (ls : Array Slot), Mm G μ H → va_S (Ah G) s.heap H locs → lv_has ls 5 [(0, .ref o), (1, .int x1), (2, .int x2)] → K7 x1 x2 μ → W p l e { frames := 2, cells := 0, slots := 0, locals := 44 } s m args below meth c H locs 0 0 (MQ below (mQ G (pI Q)) args s 0 0 (Ah G)) (F0 m 7 ls [])) (n : Nat) (x1 : Int32) (x2 : Int32) (x3 : Int32) (x4 : Int32) (μ : mmT) (H : Heap) (locs : List Loc) (ls : Array Slot), Mm G μ H → va_S (Ah G) s.heap H locs → lv_has ls 5 [(0, .ref o), (1, .int x1), (2, .int x2), (3, .int x3), (4, .int x4)] → w_X11_nestByDeliveries_l22 G o Q K7 n x1 x2 x3 x4 μ → W p l e { frames := 2, cells := 0, slots := 0, locals := 44 } s m args below meth c H locs 0 0 (MQ below (mQ G (pI Q)) args s 0 0 (Ah G)) (F0 m 22 ls []) := by
    intro K7 kK7 n
    induction n with
    | zero =>
      intro x1 x2 x3 x4 μ H locs ls hM hS hl h
      exact False.elim h
    | succ n ih =>
      intro x1 x2 x3 x4 μ H locs ls hM hS hl h
      have h : w_X11_nestByDeliveries_b22 G o Q K7 (w_X11_nestByDeliveries_l22 G o Q K7 n) x1 x2 x3 x4 μ := h
      unfold w_X11_nestByDeliveries_b22 at h
      refine lv_iload S.1 S.2.1 dX11_nestByDeliveries_22 (lv_at hl 4 rfl) ?_
      refine lv_aload_n S.1 S.2.1 dX11_nestByDeliveries_24 rfl (lv_at hl 0 rfl) ?_
      obtain ⟨k10, h⟩ := h
      refine mz_getr S hG hM cf_10 fd_321 tw_1483 dX11_nestByDeliveries_25 k10 ?_
      refine lv_iconst (v := (nI 0)) S.1 S.2.1 dX11_nestByDeliveries_28 (by decide) ?_
      obtain ⟨a11, e12, h⟩ := h
      refine mz_o1 e12 ?_
      obtain ⟨k13, h⟩ := h
      obtain ⟨b14, h⟩ := h
      refine mz_iald S hG hM dX11_nestByDeliveries_29 k13 b14 ?_
      refine lv_icmp_ge (tgt := 63) S.1 S.2.1 dX11_nestByDeliveries_30 (by decide) (fun c15 => ?_) (fun c15 => ?_)
      · have h := h.1 c15
        refine lv_iload_n S.1 S.2.1 dX11_nestByDeliveries_63 rfl (lv_at hl 3 rfl) ?_
        refine lv_iload_n S.1 S.2.1 dX11_nestByDeliveries_64 rfl (lv_at hl 1 rfl) ?_
        refine lv_icmp_ne (tgt := 70) S.1 S.2.1 dX11_nestByDeliveries_65 (by decide) (fun c16 => ?_) (fun c16 => ?_)
        · have h := h.1 c16
          refine lv_iinc (v := (x2 + nI 1)) (lv' := [(2, .int (x2 + nI 1)), (0, .ref o), (1, .int x1), (3, .int x3), (4, .int x4)]) S.1 S.2.1 dX11_nestByDeliveries_70 hl (k := 2) rfl rfl (by decide) rfl (fun ls hl => ?_)
          refine lv_goto (tgt := 7) S.1 S.2.1 dX11_nestByDeliveries_73 (by decide) ?_
          exact kK7 x1 (x2 + nI 1) μ H locs ls hM hS (lv_sub hl [1, 2, 0] rfl) h
        · have h := h.2 c16
          refine lv_iload_n S.1 S.2.1 dX11_nestByDeliveries_68 rfl (lv_at hl 2 rfl) ?_
          exact mz_iret S hr hlk hM hS rfl (Nat.le_of_ble_eq_true rfl) (Nat.le_of_ble_eq_true rfl) dX11_nestByDeliveries_69 ⟨_, rfl, h⟩
      · have h := h.2 c15
        refine lv_iload_n S.1 S.2.1 dX11_nestByDeliveries_33 rfl (lv_at hl 3 rfl) ?_
        refine lv_iload S.1 S.2.1 dX11_nestByDeliveries_34 (lv_at hl 4 rfl) ?_
        refine lv_iload_n S.1 S.2.1 dX11_nestByDeliveries_36 rfl (lv_at hl 2 rfl) ?_
        refine lv_icmp_eq (tgt := 54) S.1 S.2.1 dX11_nestByDeliveries_37 (by decide) (fun c17 => ?_) (fun c17 => ?_)
        · have h := h.1 c17
          exact hB54 K7 kK7 (w_X11_nestByDeliveries_l22 G o Q K7 n) ih x1 x2 x4 x3 μ H locs ls hM hS (lv_sub hl [0, 1, 2, 4] rfl) h
        · have h := h.2 c17
          refine lv_aload_n S.1 S.2.1 dX11_nestByDeliveries_40 rfl (lv_at hl 0 rfl) ?_
          refine lv_iload S.1 S.2.1 dX11_nestByDeliveries_41 (lv_at hl 4 rfl) ?_
          refine lv_iload_n S.1 S.2.1 dX11_nestByDeliveries_43 rfl (lv_at hl 2 rfl) ?_
          refine mz_V S hG hM hS cf_10 k10 (As := [.int x4, .int x2]) (rest := [.int x3]) (c_X11_isAhead h) yf_X11_isAhead tw_1722 tw_1724 ts_49 ⟨Nat.le_of_ble_eq_true rfl, Nat.le_of_ble_eq_true rfl⟩ ⟨(Nat.le_of_ble_eq_true rfl), (Nat.le_of_ble_eq_true rfl)⟩ rfl hl.1 rfl (Nat.le_of_ble_eq_true rfl) dX11_nestByDeliveries_44 (fun v9 μ9 H locs hp hM hS => ?_)
          obtain ⟨u18, rfl, e9, h⟩ := hp
          rw [e9] at hM
          refine W.cs (cells' := 0) (slots' := 0) rfl rfl ?_
          refine lv_if_eq (tgt := 54) S.1 S.2.1 dX11_nestByDeliveries_47 (by decide) (fun c19 => ?_) (fun c19 => ?_)
          · have h := h.1 c19
            exact hB54 K7 kK7 (w_X11_nestByDeliveries_l22 G o Q K7 n) ih x1 x2 x4 x3 μ H locs ls hM hS (lv_sub hl [0, 1, 2, 4] rfl) h
          · have h := h.2 c19
            refine lv_iconst (v := (nI 1)) S.1 S.2.1 dX11_nestByDeliveries_50 (by decide) ?_
            refine lv_goto (tgt := 55) S.1 S.2.1 dX11_nestByDeliveries_51 (by decide) ?_
            exact hB55 K7 kK7 (w_X11_nestByDeliveries_l22 G o Q K7 n) ih x1 x2 x4 x3 (nI 1) μ H locs ls hM hS (lv_sub hl [0, 1, 2, 4] rfl) h
  have hB7 : ∀ (n : Nat) (x1 : Int32) (x2 : Int32) (μ : mmT) (H : Heap) (locs : List Loc) (ls : Array Slot), Mm G μ H → va_S (Ah G) s.heap H locs → lv_has ls 5 [(0, .ref o), (1, .int x1), (2, .int x2)] → w_X11_nestByDeliveries_l7 G o Q  n x1 x2 μ → W p l e { frames := 2, cells := 0, slots := 0, locals := 44 } s m args below meth c H locs 0 0 (MQ below (mQ G (pI Q)) args s 0 0 (Ah G)) (F0 m 7 ls []) := by
    intro  n
    induction n with
    | zero =>
      intro x1 x2 μ H locs ls hM hS hl h
      exact False.elim h
    | succ n ih =>
      intro x1 x2 μ H locs ls hM hS hl h
      have h : w_X11_nestByDeliveries_b7 G o Q  (w_X11_nestByDeliveries_l7 G o Q  n) x1 x2 μ := h
      unfold w_X11_nestByDeliveries_b7 at h
      refine lv_iload_n S.1 S.2.1 dX11_nestByDeliveries_7 rfl (lv_at hl 2 rfl) ?_
      refine lv_aload_n S.1 S.2.1 dX11_nestByDeliveries_8 rfl (lv_at hl 0 rfl) ?_
      obtain ⟨k2, h⟩ := h
      refine mz_getr S hG hM cf_10 fd_321 tw_1483 dX11_nestByDeliveries_9 k2 ?_
      refine lv_iconst (v := (nI 0)) S.1 S.2.1 dX11_nestByDeliveries_12 (by decide) ?_
      obtain ⟨a3, e4, h⟩ := h
      refine mz_o1 e4 ?_
      obtain ⟨k5, h⟩ := h
      obtain ⟨b6, h⟩ := h
      refine mz_iald S hG hM dX11_nestByDeliveries_13 k5 b6 ?_
      refine lv_icmp_ge (tgt := 76) S.1 S.2.1 dX11_nestByDeliveries_14 (by decide) (fun c7 => ?_) (fun c7 => ?_)
      · have h := h.1 c7
        refine lv_aload_n S.1 S.2.1 dX11_nestByDeliveries_76 rfl (lv_at hl 0 rfl) ?_
        refine lv_iconst (v := (nI 1)) S.1 S.2.1 dX11_nestByDeliveries_77 (by decide) ?_
        refine mz_V S hG hM hS cf_10 k2 (As := [.int (nI 1)]) (rest := []) (c_X11_fails h) yf_X11_fails tw_1578 tw_1580 ts_28 ⟨Nat.le_of_ble_eq_true rfl, Nat.le_of_ble_eq_true rfl⟩ ⟨(Nat.le_of_ble_eq_true rfl), (Nat.le_of_ble_eq_true rfl)⟩ rfl hl.1 rfl (Nat.le_of_ble_eq_true rfl) dX11_nestByDeliveries_78 (fun v9 μ9 H locs hp hM hS => ?_)
        obtain ⟨u8, rfl, h⟩ := hp
        refine W.cs (cells' := 0) (slots' := 0) rfl rfl ?_
        exact mz_iret S hr hlk hM hS rfl (Nat.le_of_ble_eq_true rfl) (Nat.le_of_ble_eq_true rfl) dX11_nestByDeliveries_81 ⟨_, rfl, h⟩
      · have h := h.2 c7
        refine lv_iconst (v := (nI 0)) S.1 S.2.1 dX11_nestByDeliveries_17 (by decide) ?_
        refine lv_istore_n (lv' := [(3, .int (nI 0)), (0, .ref o), (1, .int x1), (2, .int x2)]) S.1 S.2.1 dX11_nestByDeliveries_18 rfl hl (by decide) rfl (fun ls hl => ?_)
        refine lv_iconst (v := (nI 0)) S.1 S.2.1 dX11_nestByDeliveries_19 (by decide) ?_
        refine lv_istore (lv' := [(4, .int (nI 0)), (3, .int (nI 0)), (0, .ref o), (1, .int x1), (2, .int x2)]) S.1 S.2.1 dX11_nestByDeliveries_20 hl (by decide) rfl (fun ls hl => ?_)
        obtain ⟨n9, h⟩ := h
        exact hB22 (w_X11_nestByDeliveries_l7 G o Q  n) ih n9 x1 x2 (nI 0) (nI 0) μ H locs ls hM hS (lv_sub hl [2, 3, 4, 1, 0] rfl) h
  intro H locs ls hM hS hl
  have hl : lv_has ls 5 [(0, .ref o), (1, .int x1)] := hl
  unfold w_X11_nestByDeliveries at h
  refine lv_aload_n S.1 S.2.1 dX11_nestByDeliveries_0 rfl (lv_at hl 0 rfl) ?_
  refine lv_iconst (v := (nI 0)) S.1 S.2.1 dX11_nestByDeliveries_1 (by decide) ?_
  obtain ⟨k1, h⟩ := h
  refine mz_puti S hG hM hS cf_10 fd_320 tw_1482 dX11_nestByDeliveries_2 k1 rfl rfl (fun H locs hM hS hz9 => ?_)
  refine lv_iconst (v := (nI 0)) S.1 S.2.1 dX11_nestByDeliveries_5 (by decide) ?_
  refine lv_istore_n (lv' := [(2, .int (nI 0)), (0, .ref o), (1, .int x1)]) S.1 S.2.1 dX11_nestByDeliveries_6 rfl hl (by decide) rfl (fun ls hl => ?_)
  obtain ⟨n9, h⟩ := h
  exact hB7  n9 x1 (nI 0) (sI μ 320 o (nI 0)) H locs ls hM hS (lv_sub hl [1, 2, 0] rfl) h
set_option maxRecDepth 100000 in
set_option maxHeartbeats 4000000 in
theorem c_X11_crowCount {l : Launch} {G : mgT} {μ : mmT} {o : Nat} {Q : Int32 → mmT → Prop} (h : w_X11_crowCount G μ o Q) : MC G l yX11_crowCount cX11_crowCount 1 (some .int) { frames := 0, cells := 0, slots := 0, locals := 0 } [.ref o] μ (pI Q) := by
  refine mz_MC (by decide +kernel) (Nat.le_of_ble_eq_true rfl) (fun p e s m args below meth c S hG hr hlk hnm => ?_)
  intro H locs ls hM hS hl
  have hl : lv_has ls 1 [(0, .ref o)] := hl
  unfold w_X11_crowCount at h
  refine lv_aload_n S.1 S.2.1 dX11_crowCount_0 rfl (lv_at hl 0 rfl) ?_
  refine lv_iconst (v := (nI 0)) S.1 S.2.1 dX11_crowCount_1 (by decide) ?_
  obtain ⟨k1, h⟩ := h
  refine mz_puti S hG hM hS cf_10 fd_320 tw_1482 dX11_crowCount_2 k1 rfl rfl (fun H locs hM hS hz9 => ?_)
  refine lv_aload_n S.1 S.2.1 dX11_crowCount_5 rfl (lv_at hl 0 rfl) ?_
  refine mz_getr S hG hM cf_10 fd_321 tw_1483 dX11_crowCount_6 k1 ?_
  refine lv_iconst (v := (nI 1)) S.1 S.2.1 dX11_crowCount_9 (by decide) ?_
  obtain ⟨a2, e3, h⟩ := h
  refine mz_o1 e3 ?_
  obtain ⟨k4, h⟩ := h
  obtain ⟨b5, h⟩ := h
  refine mz_iald S hG hM dX11_crowCount_10 k4 b5 ?_
  exact mz_iret S hr hlk hM hS rfl (Nat.le_of_ble_eq_true rfl) (Nat.le_of_ble_eq_true rfl) dX11_crowCount_11 ⟨_, rfl, h⟩
set_option maxRecDepth 100000 in
set_option maxHeartbeats 4000000 in
theorem c_X11_isFlying {l : Launch} {G : mgT} {μ : mmT} {o : Nat} {x1 : Int32} {Q : Int32 → mmT → Prop} (h : w_X11_isFlying G μ o x1 Q) : MC G l yX11_isFlying cX11_isFlying 2 (some .boolean) { frames := 2, cells := 0, slots := 0, locals := 43 } [.ref o, .int x1] μ (pI Q) := by
  refine mz_MC (by decide +kernel) (Nat.le_of_ble_eq_true rfl) (fun p e s m args below meth c S hG hr hlk hnm => ?_)
  have hB44 : ∀ (s0 : Int32) (μ : mmT) (H : Heap) (locs : List Loc) (ls : Array Slot), Mm G μ H → va_S (Ah G) s.heap H locs → lv_has ls 2 [(0, .ref o)] → w_X11_isFlying_b44 G o Q  s0 μ → W p l e { frames := 2, cells := 0, slots := 0, locals := 43 } s m args below meth c H locs 0 0 (MQ below (mQ G (pI Q)) args s 0 0 (Ah G)) (F0 m 44 ls [.int s0]) := by
    intro  s0 μ H locs ls hM hS hl h
    unfold w_X11_isFlying_b44 at h
    obtain ⟨f9, h⟩ := h
    exact mz_iret S hr hlk hM hS (mz_nZ f9) (Nat.le_of_ble_eq_true rfl) (Nat.le_of_ble_eq_true rfl) dX11_isFlying_44 ⟨_, rfl, h⟩
  have hB43 : ∀ (μ : mmT) (H : Heap) (locs : List Loc) (ls : Array Slot), Mm G μ H → va_S (Ah G) s.heap H locs → lv_has ls 2 [(0, .ref o)] → w_X11_isFlying_b43 G o Q  μ → W p l e { frames := 2, cells := 0, slots := 0, locals := 43 } s m args below meth c H locs 0 0 (MQ below (mQ G (pI Q)) args s 0 0 (Ah G)) (F0 m 43 ls []) := by
    intro  μ H locs ls hM hS hl h
    unfold w_X11_isFlying_b43 at h
    refine lv_iconst (v := (nI 0)) S.1 S.2.1 dX11_isFlying_43 (by decide) ?_
    exact hB44  (nI 0) μ H locs ls hM hS (lv_sub hl [0] rfl) h
  have hB14 : ∀ (x1 : Int32) (s0 : Option Nat) (s1 : Int32) (μ : mmT) (H : Heap) (locs : List Loc) (ls : Array Slot), Mm G μ H → va_S (Ah G) s.heap H locs → lv_has ls 2 [(0, .ref o), (1, .int x1)] → w_X11_isFlying_b14 G o Q  x1 s0 s1 μ → W p l e { frames := 2, cells := 0, slots := 0, locals := 43 } s m args below meth c H locs 0 0 (MQ below (mQ G (pI Q)) args s 0 0 (Ah G)) (F0 m 14 ls [.int s1, va_rf s0]) := by
    intro  x1 s0 s1 μ H locs ls hM hS hl h
    unfold w_X11_isFlying_b14 at h
    obtain ⟨a4, e5, h⟩ := h
    refine mz_o1 e5 ?_
    obtain ⟨k6, h⟩ := h
    refine mz_puti S hG hM hS cf_10 fd_320 tw_1482 dX11_isFlying_14 k6 rfl rfl (fun H locs hM hS hz9 => ?_)
    refine lv_aload_n S.1 S.2.1 dX11_isFlying_17 rfl (lv_at hl 0 rfl) ?_
    obtain ⟨k7, h⟩ := h
    refine mz_geti S hG hM cf_10 fd_320 tw_1482 dX11_isFlying_18 k7 ?_
    refine lv_if_ne (tgt := 43) S.1 S.2.1 dX11_isFlying_21 (by decide) (fun c8 => ?_) (fun c8 => ?_)
    · have h := h.1 c8
      exact hB43  (sI μ 320 a4 s1) H locs ls hM hS (lv_sub hl [0] rfl) h
    · have h := h.2 c8
      refine lv_aload_n S.1 S.2.1 dX11_isFlying_24 rfl (lv_at hl 0 rfl) ?_
      refine mz_getr S hG hM cf_10 fd_321 tw_1483 dX11_isFlying_25 k7 ?_
      refine lv_sipush (v := (nI 138)) S.1 S.2.1 dX11_isFlying_28 (by decide) ?_
      refine lv_iconst (v := (nI 2)) S.1 S.2.1 dX11_isFlying_31 (by decide) ?_
      refine lv_iload_n S.1 S.2.1 dX11_isFlying_32 rfl (lv_at hl 1 rfl) ?_
      refine lv_imul S.1 S.2.1 dX11_isFlying_33 ?_
      refine lv_iadd S.1 S.2.1 dX11_isFlying_34 ?_
      obtain ⟨a10, e11, h⟩ := h
      refine mz_o1 e11 ?_
      obtain ⟨k12, h⟩ := h
      obtain ⟨b13, h⟩ := h
      refine mz_iald S hG hM dX11_isFlying_35 k12 b13 ?_
      refine lv_if_le (tgt := 43) S.1 S.2.1 dX11_isFlying_36 (by decide) (fun c14 => ?_) (fun c14 => ?_)
      · have h := h.1 c14
        exact hB43  (sI μ 320 a4 s1) H locs ls hM hS (lv_sub hl [0] rfl) h
      · have h := h.2 c14
        refine lv_iconst (v := (nI 1)) S.1 S.2.1 dX11_isFlying_39 (by decide) ?_
        refine lv_goto (tgt := 44) S.1 S.2.1 dX11_isFlying_40 (by decide) ?_
        exact hB44  (nI 1) (sI μ 320 a4 s1) H locs ls hM hS (lv_sub hl [0] rfl) h
  intro H locs ls hM hS hl
  have hl : lv_has ls 2 [(0, .ref o), (1, .int x1)] := hl
  unfold w_X11_isFlying at h
  refine lv_aload_n S.1 S.2.1 dX11_isFlying_0 rfl (lv_at hl 0 rfl) ?_
  refine lv_aload_n S.1 S.2.1 dX11_isFlying_1 rfl (lv_at hl 0 rfl) ?_
  refine lv_iload_n S.1 S.2.1 dX11_isFlying_2 rfl (lv_at hl 1 rfl) ?_
  obtain ⟨k1, h⟩ := h
  refine mz_V S hG hM hS cf_10 k1 (As := [.int x1]) (rest := [.ref o]) (c_X11_isCrow h) yf_X11_isCrow tw_1734 tw_1736 ts_50 ⟨Nat.le_of_ble_eq_true rfl, Nat.le_of_ble_eq_true rfl⟩ ⟨(Nat.le_of_ble_eq_true rfl), (Nat.le_of_ble_eq_true rfl)⟩ rfl hl.1 rfl (Nat.le_of_ble_eq_true rfl) dX11_isFlying_3 (fun v9 μ9 H locs hp hM hS => ?_)
  obtain ⟨u2, rfl, e9, h⟩ := hp
  rw [e9] at hM
  refine W.cs (cells' := 0) (slots' := 0) rfl rfl ?_
  refine lv_if_eq (tgt := 13) S.1 S.2.1 dX11_isFlying_6 (by decide) (fun c3 => ?_) (fun c3 => ?_)
  · have h := h.1 c3
    refine lv_iconst (v := (nI 1)) S.1 S.2.1 dX11_isFlying_13 (by decide) ?_
    exact hB14  x1 (some o) (nI 1) μ H locs ls hM hS (lv_sub hl [0, 1] rfl) h
  · have h := h.2 c3
    refine lv_iconst (v := (nI 0)) S.1 S.2.1 dX11_isFlying_9 (by decide) ?_
    refine lv_goto (tgt := 14) S.1 S.2.1 dX11_isFlying_10 (by decide) ?_
    exact hB14  x1 (some o) (nI 0) μ H locs ls hM hS (lv_sub hl [0, 1] rfl) h
set_option maxRecDepth 100000 in
set_option maxHeartbeats 4000000 in
theorem c_X11_carriedMessage {l : Launch} {G : mgT} {μ : mmT} {o : Nat} {x1 : Int32} {Q : Int32 → mmT → Prop} (h : w_X11_carriedMessage G μ o x1 Q) : MC G l yX11_carriedMessage cX11_carriedMessage 2 (some .int) { frames := 2, cells := 0, slots := 0, locals := 43 } [.ref o, .int x1] μ (pI Q) := by
  refine mz_MC (by decide +kernel) (Nat.le_of_ble_eq_true rfl) (fun p e s m args below meth c S hG hr hlk hnm => ?_)
  have hB61 : ∀ (s0 : Int32) (μ : mmT) (H : Heap) (locs : List Loc) (ls : Array Slot), Mm G μ H → va_S (Ah G) s.heap H locs → lv_has ls 2 [(0, .ref o)] → w_X11_carriedMessage_b61 G o Q  s0 μ → W p l e { frames := 2, cells := 0, slots := 0, locals := 43 } s m args below meth c H locs 0 0 (MQ below (mQ G (pI Q)) args s 0 0 (Ah G)) (F0 m 61 ls [.int s0]) := by
    intro  s0 μ H locs ls hM hS hl h
    unfold w_X11_carriedMessage_b61 at h
    exact mz_iret S hr hlk hM hS rfl (Nat.le_of_ble_eq_true rfl) (Nat.le_of_ble_eq_true rfl) dX11_carriedMessage_61 ⟨_, rfl, h⟩
  have hB33 : ∀ (x1 : Int32) (s0 : Option Nat) (s1 : Int32) (μ : mmT) (H : Heap) (locs : List Loc) (ls : Array Slot), Mm G μ H → va_S (Ah G) s.heap H locs → lv_has ls 2 [(0, .ref o), (1, .int x1)] → w_X11_carriedMessage_b33 G o Q  x1 s0 s1 μ → W p l e { frames := 2, cells := 0, slots := 0, locals := 43 } s m args below meth c H locs 0 0 (MQ below (mQ G (pI Q)) args s 0 0 (Ah G)) (F0 m 33 ls [.int s1, va_rf s0]) := by
    intro  x1 s0 s1 μ H locs ls hM hS hl h
    unfold w_X11_carriedMessage_b33 at h
    obtain ⟨a9, e10, h⟩ := h
    refine mz_o1 e10 ?_
    obtain ⟨k11, h⟩ := h
    refine mz_puti S hG hM hS cf_10 fd_320 tw_1482 dX11_carriedMessage_33 k11 rfl rfl (fun H locs hM hS hz9 => ?_)
    refine lv_aload_n S.1 S.2.1 dX11_carriedMessage_36 rfl (lv_at hl 0 rfl) ?_
    obtain ⟨k12, h⟩ := h
    refine mz_geti S hG hM cf_10 fd_320 tw_1482 dX11_carriedMessage_37 k12 ?_
    refine lv_if_le (tgt := 47) S.1 S.2.1 dX11_carriedMessage_40 (by decide) (fun c13 => ?_) (fun c13 => ?_)
    · have h := h.1 c13
      refine lv_aload_n S.1 S.2.1 dX11_carriedMessage_47 rfl (lv_at hl 0 rfl) ?_
      refine mz_getr S hG hM cf_10 fd_321 tw_1483 dX11_carriedMessage_48 k12 ?_
      refine lv_sipush (v := (nI 138)) S.1 S.2.1 dX11_carriedMessage_51 (by decide) ?_
      refine lv_iconst (v := (nI 2)) S.1 S.2.1 dX11_carriedMessage_54 (by decide) ?_
      refine lv_iload_n S.1 S.2.1 dX11_carriedMessage_55 rfl (lv_at hl 1 rfl) ?_
      refine lv_imul S.1 S.2.1 dX11_carriedMessage_56 ?_
      refine lv_iadd S.1 S.2.1 dX11_carriedMessage_57 ?_
      obtain ⟨a14, e15, h⟩ := h
      refine mz_o1 e15 ?_
      obtain ⟨k16, h⟩ := h
      obtain ⟨b17, h⟩ := h
      refine mz_iald S hG hM dX11_carriedMessage_58 k16 b17 ?_
      refine lv_iconst (v := (nI 1)) S.1 S.2.1 dX11_carriedMessage_59 (by decide) ?_
      refine lv_isub S.1 S.2.1 dX11_carriedMessage_60 ?_
      exact hB61  ((mA (sI μ 320 a9 s1) a14 ((nI 138) + ((nI 2) * x1)).toNatClampNeg) - (nI 1)) (sI μ 320 a9 s1) H locs ls hM hS (lv_sub hl [0] rfl) h
    · have h := h.2 c13
      refine lv_iconst (v := (nI 0)) S.1 S.2.1 dX11_carriedMessage_43 (by decide) ?_
      refine lv_goto (tgt := 61) S.1 S.2.1 dX11_carriedMessage_44 (by decide) ?_
      exact hB61  (nI 0) (sI μ 320 a9 s1) H locs ls hM hS (lv_sub hl [0] rfl) h
  intro H locs ls hM hS hl
  have hl : lv_has ls 2 [(0, .ref o), (1, .int x1)] := hl
  unfold w_X11_carriedMessage at h
  refine lv_aload_n S.1 S.2.1 dX11_carriedMessage_0 rfl (lv_at hl 0 rfl) ?_
  refine lv_aload_n S.1 S.2.1 dX11_carriedMessage_1 rfl (lv_at hl 0 rfl) ?_
  refine lv_iload_n S.1 S.2.1 dX11_carriedMessage_2 rfl (lv_at hl 1 rfl) ?_
  obtain ⟨k1, h⟩ := h
  refine mz_V S hG hM hS cf_10 k1 (As := [.int x1]) (rest := [.ref o]) (c_X11_isCrow h) yf_X11_isCrow tw_1734 tw_1736 ts_50 ⟨Nat.le_of_ble_eq_true rfl, Nat.le_of_ble_eq_true rfl⟩ ⟨(Nat.le_of_ble_eq_true rfl), (Nat.le_of_ble_eq_true rfl)⟩ rfl hl.1 rfl (Nat.le_of_ble_eq_true rfl) dX11_carriedMessage_3 (fun v9 μ9 H locs hp hM hS => ?_)
  obtain ⟨u2, rfl, e9, h⟩ := hp
  rw [e9] at hM
  refine W.cs (cells' := 0) (slots' := 0) rfl rfl ?_
  refine lv_if_ne (tgt := 13) S.1 S.2.1 dX11_carriedMessage_6 (by decide) (fun c3 => ?_) (fun c3 => ?_)
  · have h := h.1 c3
    refine lv_aload_n S.1 S.2.1 dX11_carriedMessage_13 rfl (lv_at hl 0 rfl) ?_
    refine mz_getr S hG hM cf_10 fd_321 tw_1483 dX11_carriedMessage_14 k1 ?_
    refine lv_sipush (v := (nI 138)) S.1 S.2.1 dX11_carriedMessage_17 (by decide) ?_
    refine lv_iconst (v := (nI 2)) S.1 S.2.1 dX11_carriedMessage_20 (by decide) ?_
    refine lv_iload_n S.1 S.2.1 dX11_carriedMessage_21 rfl (lv_at hl 1 rfl) ?_
    refine lv_imul S.1 S.2.1 dX11_carriedMessage_22 ?_
    refine lv_iadd S.1 S.2.1 dX11_carriedMessage_23 ?_
    obtain ⟨a4, e5, h⟩ := h
    refine mz_o1 e5 ?_
    obtain ⟨k6, h⟩ := h
    obtain ⟨b7, h⟩ := h
    refine mz_iald S hG hM dX11_carriedMessage_24 k6 b7 ?_
    refine lv_if_le (tgt := 32) S.1 S.2.1 dX11_carriedMessage_25 (by decide) (fun c8 => ?_) (fun c8 => ?_)
    · have h := h.1 c8
      refine lv_iconst (v := (nI 2)) S.1 S.2.1 dX11_carriedMessage_32 (by decide) ?_
      exact hB33  x1 (some o) (nI 2) μ H locs ls hM hS (lv_sub hl [0, 1] rfl) h
    · have h := h.2 c8
      refine lv_iconst (v := (nI 0)) S.1 S.2.1 dX11_carriedMessage_28 (by decide) ?_
      refine lv_goto (tgt := 33) S.1 S.2.1 dX11_carriedMessage_29 (by decide) ?_
      exact hB33  x1 (some o) (nI 0) μ H locs ls hM hS (lv_sub hl [0, 1] rfl) h
  · have h := h.2 c3
    refine lv_iconst (v := (nI 1)) S.1 S.2.1 dX11_carriedMessage_9 (by decide) ?_
    refine lv_goto (tgt := 33) S.1 S.2.1 dX11_carriedMessage_10 (by decide) ?_
    exact hB33  x1 (some o) (nI 1) μ H locs ls hM hS (lv_sub hl [0, 1] rfl) h
set_option maxRecDepth 100000 in
set_option maxHeartbeats 4000000 in
theorem c_X11_flightMinutes {l : Launch} {G : mgT} {μ : mmT} {o : Nat} {x1 : Int32} {Q : Int32 → mmT → Prop} (h : w_X11_flightMinutes G μ o x1 Q) : MC G l yX11_flightMinutes cX11_flightMinutes 2 (some .int) { frames := 2, cells := 0, slots := 0, locals := 43 } [.ref o, .int x1] μ (pI Q) := by
  refine mz_MC (by decide +kernel) (Nat.le_of_ble_eq_true rfl) (fun p e s m args below meth c S hG hr hlk hnm => ?_)
  have hB42 : ∀ (s0 : Int32) (μ : mmT) (H : Heap) (locs : List Loc) (ls : Array Slot), Mm G μ H → va_S (Ah G) s.heap H locs → lv_has ls 2 [(0, .ref o)] → w_X11_flightMinutes_b42 G o Q  s0 μ → W p l e { frames := 2, cells := 0, slots := 0, locals := 43 } s m args below meth c H locs 0 0 (MQ below (mQ G (pI Q)) args s 0 0 (Ah G)) (F0 m 42 ls [.int s0]) := by
    intro  s0 μ H locs ls hM hS hl h
    unfold w_X11_flightMinutes_b42 at h
    exact mz_iret S hr hlk hM hS rfl (Nat.le_of_ble_eq_true rfl) (Nat.le_of_ble_eq_true rfl) dX11_flightMinutes_42 ⟨_, rfl, h⟩
  have hB14 : ∀ (x1 : Int32) (s0 : Option Nat) (s1 : Int32) (μ : mmT) (H : Heap) (locs : List Loc) (ls : Array Slot), Mm G μ H → va_S (Ah G) s.heap H locs → lv_has ls 2 [(0, .ref o), (1, .int x1)] → w_X11_flightMinutes_b14 G o Q  x1 s0 s1 μ → W p l e { frames := 2, cells := 0, slots := 0, locals := 43 } s m args below meth c H locs 0 0 (MQ below (mQ G (pI Q)) args s 0 0 (Ah G)) (F0 m 14 ls [.int s1, va_rf s0]) := by
    intro  x1 s0 s1 μ H locs ls hM hS hl h
    unfold w_X11_flightMinutes_b14 at h
    obtain ⟨a4, e5, h⟩ := h
    refine mz_o1 e5 ?_
    obtain ⟨k6, h⟩ := h
    refine mz_puti S hG hM hS cf_10 fd_320 tw_1482 dX11_flightMinutes_14 k6 rfl rfl (fun H locs hM hS hz9 => ?_)
    refine lv_aload_n S.1 S.2.1 dX11_flightMinutes_17 rfl (lv_at hl 0 rfl) ?_
    obtain ⟨k7, h⟩ := h
    refine mz_geti S hG hM cf_10 fd_320 tw_1482 dX11_flightMinutes_18 k7 ?_
    refine lv_if_le (tgt := 28) S.1 S.2.1 dX11_flightMinutes_21 (by decide) (fun c8 => ?_) (fun c8 => ?_)
    · have h := h.1 c8
      refine lv_aload_n S.1 S.2.1 dX11_flightMinutes_28 rfl (lv_at hl 0 rfl) ?_
      refine mz_getr S hG hM cf_10 fd_321 tw_1483 dX11_flightMinutes_29 k7 ?_
      refine lv_sipush (v := (nI 138)) S.1 S.2.1 dX11_flightMinutes_32 (by decide) ?_
      refine lv_iconst (v := (nI 2)) S.1 S.2.1 dX11_flightMinutes_35 (by decide) ?_
      refine lv_iload_n S.1 S.2.1 dX11_flightMinutes_36 rfl (lv_at hl 1 rfl) ?_
      refine lv_imul S.1 S.2.1 dX11_flightMinutes_37 ?_
      refine lv_iadd S.1 S.2.1 dX11_flightMinutes_38 ?_
      refine lv_iconst (v := (nI 1)) S.1 S.2.1 dX11_flightMinutes_39 (by decide) ?_
      refine lv_iadd S.1 S.2.1 dX11_flightMinutes_40 ?_
      obtain ⟨a9, e10, h⟩ := h
      refine mz_o1 e10 ?_
      obtain ⟨k11, h⟩ := h
      obtain ⟨b12, h⟩ := h
      refine mz_iald S hG hM dX11_flightMinutes_41 k11 b12 ?_
      exact hB42  (mA (sI μ 320 a4 s1) a9 (((nI 138) + ((nI 2) * x1)) + (nI 1)).toNatClampNeg) (sI μ 320 a4 s1) H locs ls hM hS (lv_sub hl [0] rfl) h
    · have h := h.2 c8
      refine lv_iconst (v := (nI 0)) S.1 S.2.1 dX11_flightMinutes_24 (by decide) ?_
      refine lv_goto (tgt := 42) S.1 S.2.1 dX11_flightMinutes_25 (by decide) ?_
      exact hB42  (nI 0) (sI μ 320 a4 s1) H locs ls hM hS (lv_sub hl [0] rfl) h
  intro H locs ls hM hS hl
  have hl : lv_has ls 2 [(0, .ref o), (1, .int x1)] := hl
  unfold w_X11_flightMinutes at h
  refine lv_aload_n S.1 S.2.1 dX11_flightMinutes_0 rfl (lv_at hl 0 rfl) ?_
  refine lv_aload_n S.1 S.2.1 dX11_flightMinutes_1 rfl (lv_at hl 0 rfl) ?_
  refine lv_iload_n S.1 S.2.1 dX11_flightMinutes_2 rfl (lv_at hl 1 rfl) ?_
  obtain ⟨k1, h⟩ := h
  refine mz_V S hG hM hS cf_10 k1 (As := [.int x1]) (rest := [.ref o]) (c_X11_isCrow h) yf_X11_isCrow tw_1734 tw_1736 ts_50 ⟨Nat.le_of_ble_eq_true rfl, Nat.le_of_ble_eq_true rfl⟩ ⟨(Nat.le_of_ble_eq_true rfl), (Nat.le_of_ble_eq_true rfl)⟩ rfl hl.1 rfl (Nat.le_of_ble_eq_true rfl) dX11_flightMinutes_3 (fun v9 μ9 H locs hp hM hS => ?_)
  obtain ⟨u2, rfl, e9, h⟩ := hp
  rw [e9] at hM
  refine W.cs (cells' := 0) (slots' := 0) rfl rfl ?_
  refine lv_if_eq (tgt := 13) S.1 S.2.1 dX11_flightMinutes_6 (by decide) (fun c3 => ?_) (fun c3 => ?_)
  · have h := h.1 c3
    refine lv_iconst (v := (nI 1)) S.1 S.2.1 dX11_flightMinutes_13 (by decide) ?_
    exact hB14  x1 (some o) (nI 1) μ H locs ls hM hS (lv_sub hl [0, 1] rfl) h
  · have h := h.2 c3
    refine lv_iconst (v := (nI 0)) S.1 S.2.1 dX11_flightMinutes_9 (by decide) ?_
    refine lv_goto (tgt := 14) S.1 S.2.1 dX11_flightMinutes_10 (by decide) ?_
    exact hB14  x1 (some o) (nI 0) μ H locs ls hM hS (lv_sub hl [0, 1] rfl) h
set_option maxRecDepth 100000 in
set_option maxHeartbeats 4000000 in
theorem c_X11_messageCount {l : Launch} {G : mgT} {μ : mmT} {o : Nat} {Q : Int32 → mmT → Prop} (h : w_X11_messageCount G μ o Q) : MC G l yX11_messageCount cX11_messageCount 1 (some .int) { frames := 0, cells := 0, slots := 0, locals := 0 } [.ref o] μ (pI Q) := by
  refine mz_MC (by decide +kernel) (Nat.le_of_ble_eq_true rfl) (fun p e s m args below meth c S hG hr hlk hnm => ?_)
  intro H locs ls hM hS hl
  have hl : lv_has ls 1 [(0, .ref o)] := hl
  unfold w_X11_messageCount at h
  refine lv_aload_n S.1 S.2.1 dX11_messageCount_0 rfl (lv_at hl 0 rfl) ?_
  refine lv_iconst (v := (nI 0)) S.1 S.2.1 dX11_messageCount_1 (by decide) ?_
  obtain ⟨k1, h⟩ := h
  refine mz_puti S hG hM hS cf_10 fd_320 tw_1482 dX11_messageCount_2 k1 rfl rfl (fun H locs hM hS hz9 => ?_)
  refine lv_aload_n S.1 S.2.1 dX11_messageCount_5 rfl (lv_at hl 0 rfl) ?_
  refine mz_getr S hG hM cf_10 fd_321 tw_1483 dX11_messageCount_6 k1 ?_
  refine lv_iconst (v := (nI 2)) S.1 S.2.1 dX11_messageCount_9 (by decide) ?_
  obtain ⟨a2, e3, h⟩ := h
  refine mz_o1 e3 ?_
  obtain ⟨k4, h⟩ := h
  obtain ⟨b5, h⟩ := h
  refine mz_iald S hG hM dX11_messageCount_10 k4 b5 ?_
  exact mz_iret S hr hlk hM hS rfl (Nat.le_of_ble_eq_true rfl) (Nat.le_of_ble_eq_true rfl) dX11_messageCount_11 ⟨_, rfl, h⟩
set_option maxRecDepth 100000 in
set_option maxHeartbeats 4000000 in
theorem c_X11_messageAt {l : Launch} {G : mgT} {μ : mmT} {o : Nat} {x1 : Int32} {Q : Int32 → mmT → Prop} (h : w_X11_messageAt G μ o x1 Q) : MC G l yX11_messageAt cX11_messageAt 2 (some .int) { frames := 1, cells := 0, slots := 0, locals := 22 } [.ref o, .int x1] μ (pI Q) := by
  refine mz_MC (by decide +kernel) (Nat.le_of_ble_eq_true rfl) (fun p e s m args below meth c S hG hr hlk hnm => ?_)
  have hB42 : ∀ (s0 : Int32) (μ : mmT) (H : Heap) (locs : List Loc) (ls : Array Slot), Mm G μ H → va_S (Ah G) s.heap H locs → lv_has ls 2 [(0, .ref o)] → w_X11_messageAt_b42 G o Q  s0 μ → W p l e { frames := 1, cells := 0, slots := 0, locals := 22 } s m args below meth c H locs 0 0 (MQ below (mQ G (pI Q)) args s 0 0 (Ah G)) (F0 m 42 ls [.int s0]) := by
    intro  s0 μ H locs ls hM hS hl h
    unfold w_X11_messageAt_b42 at h
    exact mz_iret S hr hlk hM hS rfl (Nat.le_of_ble_eq_true rfl) (Nat.le_of_ble_eq_true rfl) dX11_messageAt_42 ⟨_, rfl, h⟩
  have hB22 : ∀ (x1 : Int32) (s0 : Option Nat) (s1 : Int32) (μ : mmT) (H : Heap) (locs : List Loc) (ls : Array Slot), Mm G μ H → va_S (Ah G) s.heap H locs → lv_has ls 2 [(0, .ref o), (1, .int x1)] → w_X11_messageAt_b22 G o Q  x1 s0 s1 μ → W p l e { frames := 1, cells := 0, slots := 0, locals := 22 } s m args below meth c H locs 0 0 (MQ below (mQ G (pI Q)) args s 0 0 (Ah G)) (F0 m 22 ls [.int s1, va_rf s0]) := by
    intro  x1 s0 s1 μ H locs ls hM hS hl h
    unfold w_X11_messageAt_b22 at h
    obtain ⟨a8, e9, h⟩ := h
    refine mz_o1 e9 ?_
    obtain ⟨k10, h⟩ := h
    refine mz_puti S hG hM hS cf_10 fd_320 tw_1482 dX11_messageAt_22 k10 rfl rfl (fun H locs hM hS hz9 => ?_)
    refine lv_aload_n S.1 S.2.1 dX11_messageAt_25 rfl (lv_at hl 0 rfl) ?_
    obtain ⟨k11, h⟩ := h
    refine mz_geti S hG hM cf_10 fd_320 tw_1482 dX11_messageAt_26 k11 ?_
    refine lv_if_le (tgt := 36) S.1 S.2.1 dX11_messageAt_29 (by decide) (fun c12 => ?_) (fun c12 => ?_)
    · have h := h.1 c12
      refine lv_aload_n S.1 S.2.1 dX11_messageAt_36 rfl (lv_at hl 0 rfl) ?_
      refine lv_iload_n S.1 S.2.1 dX11_messageAt_37 rfl (lv_at hl 1 rfl) ?_
      refine lv_iconst (v := (nI 0)) S.1 S.2.1 dX11_messageAt_38 (by decide) ?_
      refine mz_V S hG hM hS cf_10 k11 (As := [.int x1, .int (nI 0)]) (rest := []) (c_X11_of h) yf_X11_of tw_1622 tw_1624 ts_36 ⟨Nat.le_of_ble_eq_true rfl, Nat.le_of_ble_eq_true rfl⟩ ⟨(Nat.le_of_ble_eq_true rfl), (Nat.le_of_ble_eq_true rfl)⟩ rfl hl.1 rfl (Nat.le_of_ble_eq_true rfl) dX11_messageAt_39 (fun v9 μ9 H locs hp hM hS => ?_)
      obtain ⟨u13, rfl, e9, h⟩ := hp
      rw [e9] at hM
      refine W.cs (cells' := 0) (slots' := 0) rfl rfl ?_
      exact hB42  u13 (sI μ 320 a8 s1) H locs ls hM hS (lv_sub hl [0] rfl) h
    · have h := h.2 c12
      refine lv_iconst (v := (nI 0)) S.1 S.2.1 dX11_messageAt_32 (by decide) ?_
      refine lv_goto (tgt := 42) S.1 S.2.1 dX11_messageAt_33 (by decide) ?_
      exact hB42  (nI 0) (sI μ 320 a8 s1) H locs ls hM hS (lv_sub hl [0] rfl) h
  intro H locs ls hM hS hl
  have hl : lv_has ls 2 [(0, .ref o), (1, .int x1)] := hl
  unfold w_X11_messageAt at h
  refine lv_aload_n S.1 S.2.1 dX11_messageAt_0 rfl (lv_at hl 0 rfl) ?_
  refine lv_iload_n S.1 S.2.1 dX11_messageAt_1 rfl (lv_at hl 1 rfl) ?_
  refine lv_iconst (v := (nI 0)) S.1 S.2.1 dX11_messageAt_2 (by decide) ?_
  refine lv_aload_n S.1 S.2.1 dX11_messageAt_3 rfl (lv_at hl 0 rfl) ?_
  obtain ⟨k1, h⟩ := h
  refine mz_getr S hG hM cf_10 fd_321 tw_1483 dX11_messageAt_4 k1 ?_
  refine lv_iconst (v := (nI 2)) S.1 S.2.1 dX11_messageAt_7 (by decide) ?_
  obtain ⟨a2, e3, h⟩ := h
  refine mz_o1 e3 ?_
  obtain ⟨k4, h⟩ := h
  obtain ⟨b5, h⟩ := h
  refine mz_iald S hG hM dX11_messageAt_8 k4 b5 ?_
  refine lv_iconst (v := (nI 1)) S.1 S.2.1 dX11_messageAt_9 (by decide) ?_
  refine lv_isub S.1 S.2.1 dX11_messageAt_10 ?_
  refine mz_S S hG hM hS (As := [.int x1, .int (nI 0), .int ((mA μ a2 (nI 2).toNatClampNeg) - (nI 1))]) (rest := [.ref o]) (c_X11_in h) yf_X11_in tw_1559 tw_1560 ⟨Nat.le_of_ble_eq_true rfl, Nat.le_of_ble_eq_true rfl⟩ ⟨(Nat.le_of_ble_eq_true rfl), (Nat.le_of_ble_eq_true rfl)⟩ rfl hl.1 rfl (Nat.le_of_ble_eq_true rfl) dX11_messageAt_11 (fun v9 μ9 H locs hp hM hS => ?_)
  obtain ⟨u6, rfl, e9, h⟩ := hp
  rw [e9] at hM
  refine W.cs (cells' := 0) (slots' := 0) rfl rfl ?_
  refine lv_if_eq (tgt := 21) S.1 S.2.1 dX11_messageAt_14 (by decide) (fun c7 => ?_) (fun c7 => ?_)
  · have h := h.1 c7
    refine lv_iconst (v := (nI 1)) S.1 S.2.1 dX11_messageAt_21 (by decide) ?_
    exact hB22  x1 (some o) (nI 1) μ H locs ls hM hS (lv_sub hl [0, 1] rfl) h
  · have h := h.2 c7
    refine lv_iconst (v := (nI 0)) S.1 S.2.1 dX11_messageAt_17 (by decide) ?_
    refine lv_goto (tgt := 22) S.1 S.2.1 dX11_messageAt_18 (by decide) ?_
    exact hB22  x1 (some o) (nI 0) μ H locs ls hM hS (lv_sub hl [0, 1] rfl) h
set_option maxRecDepth 100000 in
set_option maxHeartbeats 4000000 in
theorem c_X11_asked {l : Launch} {G : mgT} {μ : mmT} {o : Nat} {x1 : Int32} {x2 : Int32} {Q : Int32 → mmT → Prop} (h : w_X11_asked G μ o x1 x2 Q) : MC G l yX11_asked cX11_asked 4 (some .int) { frames := 2, cells := 0, slots := 0, locals := 44 } [.ref o, .int x1, .int x2] μ (pI Q) := by
  refine mz_MC (by decide +kernel) (Nat.le_of_ble_eq_true rfl) (fun p e s m args below meth c S hG hr hlk hnm => ?_)
  have hB37 : ∀ (s0 : Int32) (μ : mmT) (H : Heap) (locs : List Loc) (ls : Array Slot), Mm G μ H → va_S (Ah G) s.heap H locs → lv_has ls 4 [(0, .ref o)] → w_X11_asked_b37 G o Q  s0 μ → W p l e { frames := 2, cells := 0, slots := 0, locals := 44 } s m args below meth c H locs 0 0 (MQ below (mQ G (pI Q)) args s 0 0 (Ah G)) (F0 m 37 ls [.int s0]) := by
    intro  s0 μ H locs ls hM hS hl h
    unfold w_X11_asked_b37 at h
    exact mz_iret S hr hlk hM hS rfl (Nat.le_of_ble_eq_true rfl) (Nat.le_of_ble_eq_true rfl) dX11_asked_37 ⟨_, rfl, h⟩
  have hB17 : ∀ (x2 : Int32) (x3 : Int32) (s0 : Option Nat) (s1 : Int32) (μ : mmT) (H : Heap) (locs : List Loc) (ls : Array Slot), Mm G μ H → va_S (Ah G) s.heap H locs → lv_has ls 4 [(0, .ref o), (2, .int x2), (3, .int x3)] → w_X11_asked_b17 G o Q  x2 x3 s0 s1 μ → W p l e { frames := 2, cells := 0, slots := 0, locals := 44 } s m args below meth c H locs 0 0 (MQ below (mQ G (pI Q)) args s 0 0 (Ah G)) (F0 m 17 ls [.int s1, va_rf s0]) := by
    intro  x2 x3 s0 s1 μ H locs ls hM hS hl h
    unfold w_X11_asked_b17 at h
    obtain ⟨a4, e5, h⟩ := h
    refine mz_o1 e5 ?_
    obtain ⟨k6, h⟩ := h
    refine mz_puti S hG hM hS cf_10 fd_320 tw_1482 dX11_asked_17 k6 rfl rfl (fun H locs hM hS hz9 => ?_)
    refine lv_aload_n S.1 S.2.1 dX11_asked_20 rfl (lv_at hl 0 rfl) ?_
    obtain ⟨k7, h⟩ := h
    refine mz_geti S hG hM cf_10 fd_320 tw_1482 dX11_asked_21 k7 ?_
    refine lv_if_le (tgt := 31) S.1 S.2.1 dX11_asked_24 (by decide) (fun c8 => ?_) (fun c8 => ?_)
    · have h := h.1 c8
      refine lv_aload_n S.1 S.2.1 dX11_asked_31 rfl (lv_at hl 0 rfl) ?_
      refine lv_iload_n S.1 S.2.1 dX11_asked_32 rfl (lv_at hl 2 rfl) ?_
      refine lv_iload_n S.1 S.2.1 dX11_asked_33 rfl (lv_at hl 1 rfl) ?_
      refine mz_V S hG hM hS cf_10 k7 (As := [.int x3, .int x2]) (rest := []) (c_X11_of h) yf_X11_of tw_1622 tw_1624 ts_36 ⟨Nat.le_of_ble_eq_true rfl, Nat.le_of_ble_eq_true rfl⟩ ⟨(Nat.le_of_ble_eq_true rfl), (Nat.le_of_ble_eq_true rfl)⟩ rfl hl.1 rfl (Nat.le_of_ble_eq_true rfl) dX11_asked_34 (fun v9 μ9 H locs hp hM hS => ?_)
      obtain ⟨u9, rfl, e9, h⟩ := hp
      rw [e9] at hM
      refine W.cs (cells' := 0) (slots' := 0) rfl rfl ?_
      exact hB37  u9 (sI μ 320 a4 s1) H locs ls hM hS (lv_sub hl [0] rfl) h
    · have h := h.2 c8
      refine lv_iconst (v := (nI 0)) S.1 S.2.1 dX11_asked_27 (by decide) ?_
      refine lv_goto (tgt := 37) S.1 S.2.1 dX11_asked_28 (by decide) ?_
      exact hB37  (nI 0) (sI μ 320 a4 s1) H locs ls hM hS (lv_sub hl [0] rfl) h
  intro H locs ls hM hS hl
  have hl : lv_has ls 4 [(0, .ref o), (1, .int x1), (2, .int x2)] := hl
  unfold w_X11_asked at h
  refine lv_aload_n S.1 S.2.1 dX11_asked_0 rfl (lv_at hl 0 rfl) ?_
  refine lv_iload_n S.1 S.2.1 dX11_asked_1 rfl (lv_at hl 1 rfl) ?_
  obtain ⟨k1, h⟩ := h
  refine mz_V S hG hM hS cf_10 k1 (As := [.int x1]) (rest := []) (c_X11_placeOf h) yf_X11_placeOf tw_1618 tw_1620 ts_35 ⟨Nat.le_of_ble_eq_true rfl, Nat.le_of_ble_eq_true rfl⟩ ⟨(Nat.le_of_ble_eq_true rfl), (Nat.le_of_ble_eq_true rfl)⟩ rfl hl.1 rfl (Nat.le_of_ble_eq_true rfl) dX11_asked_2 (fun v9 μ9 H locs hp hM hS => ?_)
  obtain ⟨u2, rfl, e9, h⟩ := hp
  rw [e9] at hM
  refine W.cs (cells' := 0) (slots' := 0) rfl rfl ?_
  refine lv_istore_n (lv' := [(3, .int u2), (0, .ref o), (1, .int x1), (2, .int x2)]) S.1 S.2.1 dX11_asked_5 rfl hl (by decide) rfl (fun ls hl => ?_)
  refine lv_aload_n S.1 S.2.1 dX11_asked_6 rfl (lv_at hl 1 rfl) ?_
  refine lv_iload_n S.1 S.2.1 dX11_asked_7 rfl (lv_at hl 0 rfl) ?_
  refine lv_iconst (v := (-1)) S.1 S.2.1 dX11_asked_8 (by decide) ?_
  refine lv_icmp_ne (tgt := 16) S.1 S.2.1 dX11_asked_9 (by decide) (fun c3 => ?_) (fun c3 => ?_)
  · have h := h.1 c3
    refine lv_iconst (v := (nI 0)) S.1 S.2.1 dX11_asked_16 (by decide) ?_
    exact hB17  x2 u2 (some o) (nI 0) μ H locs ls hM hS (lv_sub hl [1, 3, 0] rfl) h
  · have h := h.2 c3
    refine lv_iconst (v := (nI 1)) S.1 S.2.1 dX11_asked_12 (by decide) ?_
    refine lv_goto (tgt := 17) S.1 S.2.1 dX11_asked_13 (by decide) ?_
    exact hB17  x2 u2 (some o) (nI 1) μ H locs ls hM hS (lv_sub hl [1, 3, 0] rfl) h
set_option maxRecDepth 100000 in
set_option maxHeartbeats 4000000 in
theorem c_X11_nestOf {l : Launch} {G : mgT} {μ : mmT} {o : Nat} {x1 : Int32} {Q : Int32 → mmT → Prop} (h : w_X11_nestOf G μ o x1 Q) : MC G l yX11_nestOf cX11_nestOf 2 (some .int) { frames := 3, cells := 0, slots := 0, locals := 67 } [.ref o, .int x1] μ (pI Q) := by
  refine mz_MC (by decide +kernel) (Nat.le_of_ble_eq_true rfl) (fun p e s m args below meth c S hG hr hlk hnm => ?_)
  intro H locs ls hM hS hl
  have hl : lv_has ls 2 [(0, .ref o), (1, .int x1)] := hl
  unfold w_X11_nestOf at h
  refine lv_aload_n S.1 S.2.1 dX11_nestOf_0 rfl (lv_at hl 0 rfl) ?_
  refine lv_iload_n S.1 S.2.1 dX11_nestOf_1 rfl (lv_at hl 1 rfl) ?_
  refine lv_iconst (v := (nI 1)) S.1 S.2.1 dX11_nestOf_2 (by decide) ?_
  obtain ⟨k1, h⟩ := h
  refine mz_V S hG hM hS cf_10 k1 (As := [.int x1, .int (nI 1)]) (rest := []) (c_X11_asked h) yf_X11_asked tw_1758 tw_1760 ts_51 ⟨Nat.le_of_ble_eq_true rfl, Nat.le_of_ble_eq_true rfl⟩ ⟨(Nat.le_of_ble_eq_true rfl), (Nat.le_of_ble_eq_true rfl)⟩ rfl hl.1 rfl (Nat.le_of_ble_eq_true rfl) dX11_nestOf_3 (fun v9 μ3 H locs hp hM hS => ?_)
  obtain ⟨u2, rfl, h⟩ := hp
  refine W.cs (cells' := 0) (slots' := 0) rfl rfl ?_
  exact mz_iret S hr hlk hM hS rfl (Nat.le_of_ble_eq_true rfl) (Nat.le_of_ble_eq_true rfl) dX11_nestOf_6 ⟨_, rfl, h⟩
set_option maxRecDepth 100000 in
set_option maxHeartbeats 4000000 in
theorem c_X11_keyOf {l : Launch} {G : mgT} {μ : mmT} {o : Nat} {x1 : Int32} {Q : Int32 → mmT → Prop} (h : w_X11_keyOf G μ o x1 Q) : MC G l yX11_keyOf cX11_keyOf 2 (some .int) { frames := 3, cells := 0, slots := 0, locals := 67 } [.ref o, .int x1] μ (pI Q) := by
  refine mz_MC (by decide +kernel) (Nat.le_of_ble_eq_true rfl) (fun p e s m args below meth c S hG hr hlk hnm => ?_)
  intro H locs ls hM hS hl
  have hl : lv_has ls 2 [(0, .ref o), (1, .int x1)] := hl
  unfold w_X11_keyOf at h
  refine lv_aload_n S.1 S.2.1 dX11_keyOf_0 rfl (lv_at hl 0 rfl) ?_
  refine lv_iload_n S.1 S.2.1 dX11_keyOf_1 rfl (lv_at hl 1 rfl) ?_
  refine lv_iconst (v := (nI 2)) S.1 S.2.1 dX11_keyOf_2 (by decide) ?_
  obtain ⟨k1, h⟩ := h
  refine mz_V S hG hM hS cf_10 k1 (As := [.int x1, .int (nI 2)]) (rest := []) (c_X11_asked h) yf_X11_asked tw_1758 tw_1760 ts_51 ⟨Nat.le_of_ble_eq_true rfl, Nat.le_of_ble_eq_true rfl⟩ ⟨(Nat.le_of_ble_eq_true rfl), (Nat.le_of_ble_eq_true rfl)⟩ rfl hl.1 rfl (Nat.le_of_ble_eq_true rfl) dX11_keyOf_3 (fun v9 μ3 H locs hp hM hS => ?_)
  obtain ⟨u2, rfl, h⟩ := hp
  refine W.cs (cells' := 0) (slots' := 0) rfl rfl ?_
  exact mz_iret S hr hlk hM hS rfl (Nat.le_of_ble_eq_true rfl) (Nat.le_of_ble_eq_true rfl) dX11_keyOf_6 ⟨_, rfl, h⟩
set_option maxRecDepth 100000 in
set_option maxHeartbeats 4000000 in
theorem c_X11_attempts {l : Launch} {G : mgT} {μ : mmT} {o : Nat} {x1 : Int32} {Q : Int32 → mmT → Prop} (h : w_X11_attempts G μ o x1 Q) : MC G l yX11_attempts cX11_attempts 2 (some .int) { frames := 3, cells := 0, slots := 0, locals := 67 } [.ref o, .int x1] μ (pI Q) := by
  refine mz_MC (by decide +kernel) (Nat.le_of_ble_eq_true rfl) (fun p e s m args below meth c S hG hr hlk hnm => ?_)
  intro H locs ls hM hS hl
  have hl : lv_has ls 2 [(0, .ref o), (1, .int x1)] := hl
  unfold w_X11_attempts at h
  refine lv_aload_n S.1 S.2.1 dX11_attempts_0 rfl (lv_at hl 0 rfl) ?_
  refine lv_iload_n S.1 S.2.1 dX11_attempts_1 rfl (lv_at hl 1 rfl) ?_
  refine lv_iconst (v := (nI 3)) S.1 S.2.1 dX11_attempts_2 (by decide) ?_
  obtain ⟨k1, h⟩ := h
  refine mz_V S hG hM hS cf_10 k1 (As := [.int x1, .int (nI 3)]) (rest := []) (c_X11_asked h) yf_X11_asked tw_1758 tw_1760 ts_51 ⟨Nat.le_of_ble_eq_true rfl, Nat.le_of_ble_eq_true rfl⟩ ⟨(Nat.le_of_ble_eq_true rfl), (Nat.le_of_ble_eq_true rfl)⟩ rfl hl.1 rfl (Nat.le_of_ble_eq_true rfl) dX11_attempts_3 (fun v9 μ3 H locs hp hM hS => ?_)
  obtain ⟨u2, rfl, h⟩ := hp
  refine W.cs (cells' := 0) (slots' := 0) rfl rfl ?_
  exact mz_iret S hr hlk hM hS rfl (Nat.le_of_ble_eq_true rfl) (Nat.le_of_ble_eq_true rfl) dX11_attempts_6 ⟨_, rfl, h⟩
set_option maxRecDepth 100000 in
set_option maxHeartbeats 4000000 in
theorem c_X11_status {l : Launch} {G : mgT} {μ : mmT} {o : Nat} {x1 : Int32} {Q : Int32 → mmT → Prop} (h : w_X11_status G μ o x1 Q) : MC G l yX11_status cX11_status 2 (some .char) { frames := 3, cells := 0, slots := 0, locals := 67 } [.ref o, .int x1] μ (pI Q) := by
  refine mz_MC (by decide +kernel) (Nat.le_of_ble_eq_true rfl) (fun p e s m args below meth c S hG hr hlk hnm => ?_)
  intro H locs ls hM hS hl
  have hl : lv_has ls 2 [(0, .ref o), (1, .int x1)] := hl
  unfold w_X11_status at h
  refine lv_aload_n S.1 S.2.1 dX11_status_0 rfl (lv_at hl 0 rfl) ?_
  refine lv_iload_n S.1 S.2.1 dX11_status_1 rfl (lv_at hl 1 rfl) ?_
  refine lv_iconst (v := (nI 4)) S.1 S.2.1 dX11_status_2 (by decide) ?_
  obtain ⟨k1, h⟩ := h
  refine mz_V S hG hM hS cf_10 k1 (As := [.int x1, .int (nI 4)]) (rest := []) (c_X11_asked h) yf_X11_asked tw_1758 tw_1760 ts_51 ⟨Nat.le_of_ble_eq_true rfl, Nat.le_of_ble_eq_true rfl⟩ ⟨(Nat.le_of_ble_eq_true rfl), (Nat.le_of_ble_eq_true rfl)⟩ rfl hl.1 rfl (Nat.le_of_ble_eq_true rfl) dX11_status_3 (fun v9 μ3 H locs hp hM hS => ?_)
  obtain ⟨u2, rfl, h⟩ := hp
  refine W.cs (cells' := 0) (slots' := 0) rfl rfl ?_
  refine lv_i2c S.1 S.2.1 dX11_status_6 rfl ?_
  obtain ⟨f4, h⟩ := h
  exact mz_iret S hr hlk hM hS (mz_nC f4) (Nat.le_of_ble_eq_true rfl) (Nat.le_of_ble_eq_true rfl) dX11_status_7 ⟨_, rfl, h⟩
set_option maxRecDepth 100000 in
set_option maxHeartbeats 4000000 in
theorem c_X11_napMinutes {l : Launch} {G : mgT} {μ : mmT} {o : Nat} {x1 : Int32} {Q : Int32 → mmT → Prop} (h : w_X11_napMinutes G μ o x1 Q) : MC G l yX11_napMinutes cX11_napMinutes 3 (some .int) { frames := 2, cells := 0, slots := 0, locals := 44 } [.ref o, .int x1] μ (pI Q) := by
  refine mz_MC (by decide +kernel) (Nat.le_of_ble_eq_true rfl) (fun p e s m args below meth c S hG hr hlk hnm => ?_)
  have hB52 : ∀ (s0 : Int32) (μ : mmT) (H : Heap) (locs : List Loc) (ls : Array Slot), Mm G μ H → va_S (Ah G) s.heap H locs → lv_has ls 3 [(0, .ref o)] → w_X11_napMinutes_b52 G o Q  s0 μ → W p l e { frames := 2, cells := 0, slots := 0, locals := 44 } s m args below meth c H locs 0 0 (MQ below (mQ G (pI Q)) args s 0 0 (Ah G)) (F0 m 52 ls [.int s0]) := by
    intro  s0 μ H locs ls hM hS hl h
    unfold w_X11_napMinutes_b52 at h
    exact mz_iret S hr hlk hM hS rfl (Nat.le_of_ble_eq_true rfl) (Nat.le_of_ble_eq_true rfl) dX11_napMinutes_52 ⟨_, rfl, h⟩
  have hB32 : ∀ (x2 : Int32) (s0 : Option Nat) (s1 : Int32) (μ : mmT) (H : Heap) (locs : List Loc) (ls : Array Slot), Mm G μ H → va_S (Ah G) s.heap H locs → lv_has ls 3 [(0, .ref o), (2, .int x2)] → w_X11_napMinutes_b32 G o Q  x2 s0 s1 μ → W p l e { frames := 2, cells := 0, slots := 0, locals := 44 } s m args below meth c H locs 0 0 (MQ below (mQ G (pI Q)) args s 0 0 (Ah G)) (F0 m 32 ls [.int s1, va_rf s0]) := by
    intro  x2 s0 s1 μ H locs ls hM hS hl h
    unfold w_X11_napMinutes_b32 at h
    obtain ⟨a6, e7, h⟩ := h
    refine mz_o1 e7 ?_
    obtain ⟨k8, h⟩ := h
    refine mz_puti S hG hM hS cf_10 fd_320 tw_1482 dX11_napMinutes_32 k8 rfl rfl (fun H locs hM hS hz9 => ?_)
    refine lv_aload_n S.1 S.2.1 dX11_napMinutes_35 rfl (lv_at hl 0 rfl) ?_
    obtain ⟨k9, h⟩ := h
    refine mz_geti S hG hM cf_10 fd_320 tw_1482 dX11_napMinutes_36 k9 ?_
    refine lv_if_le (tgt := 46) S.1 S.2.1 dX11_napMinutes_39 (by decide) (fun c10 => ?_) (fun c10 => ?_)
    · have h := h.1 c10
      refine lv_aload_n S.1 S.2.1 dX11_napMinutes_46 rfl (lv_at hl 0 rfl) ?_
      refine lv_iload_n S.1 S.2.1 dX11_napMinutes_47 rfl (lv_at hl 1 rfl) ?_
      refine lv_iconst (v := (nI 5)) S.1 S.2.1 dX11_napMinutes_48 (by decide) ?_
      refine mz_V S hG hM hS cf_10 k9 (As := [.int x2, .int (nI 5)]) (rest := []) (c_X11_of h) yf_X11_of tw_1622 tw_1624 ts_36 ⟨Nat.le_of_ble_eq_true rfl, Nat.le_of_ble_eq_true rfl⟩ ⟨(Nat.le_of_ble_eq_true rfl), (Nat.le_of_ble_eq_true rfl)⟩ rfl hl.1 rfl (Nat.le_of_ble_eq_true rfl) dX11_napMinutes_49 (fun v9 μ9 H locs hp hM hS => ?_)
      obtain ⟨u11, rfl, e9, h⟩ := hp
      rw [e9] at hM
      refine W.cs (cells' := 0) (slots' := 0) rfl rfl ?_
      exact hB52  u11 (sI μ 320 a6 s1) H locs ls hM hS (lv_sub hl [0] rfl) h
    · have h := h.2 c10
      refine lv_iconst (v := (nI 0)) S.1 S.2.1 dX11_napMinutes_42 (by decide) ?_
      refine lv_goto (tgt := 52) S.1 S.2.1 dX11_napMinutes_43 (by decide) ?_
      exact hB52  (nI 0) (sI μ 320 a6 s1) H locs ls hM hS (lv_sub hl [0] rfl) h
  intro H locs ls hM hS hl
  have hl : lv_has ls 3 [(0, .ref o), (1, .int x1)] := hl
  unfold w_X11_napMinutes at h
  refine lv_aload_n S.1 S.2.1 dX11_napMinutes_0 rfl (lv_at hl 0 rfl) ?_
  refine lv_iload_n S.1 S.2.1 dX11_napMinutes_1 rfl (lv_at hl 1 rfl) ?_
  obtain ⟨k1, h⟩ := h
  refine mz_V S hG hM hS cf_10 k1 (As := [.int x1]) (rest := []) (c_X11_placeOf h) yf_X11_placeOf tw_1618 tw_1620 ts_35 ⟨Nat.le_of_ble_eq_true rfl, Nat.le_of_ble_eq_true rfl⟩ ⟨(Nat.le_of_ble_eq_true rfl), (Nat.le_of_ble_eq_true rfl)⟩ rfl hl.1 rfl (Nat.le_of_ble_eq_true rfl) dX11_napMinutes_2 (fun v9 μ9 H locs hp hM hS => ?_)
  obtain ⟨u2, rfl, e9, h⟩ := hp
  rw [e9] at hM
  refine W.cs (cells' := 0) (slots' := 0) rfl rfl ?_
  refine lv_istore_n (lv' := [(2, .int u2), (0, .ref o), (1, .int x1)]) S.1 S.2.1 dX11_napMinutes_5 rfl hl (by decide) rfl (fun ls hl => ?_)
  refine lv_aload_n S.1 S.2.1 dX11_napMinutes_6 rfl (lv_at hl 1 rfl) ?_
  refine lv_iload_n S.1 S.2.1 dX11_napMinutes_7 rfl (lv_at hl 0 rfl) ?_
  refine lv_iconst (v := (-1)) S.1 S.2.1 dX11_napMinutes_8 (by decide) ?_
  refine lv_icmp_ne (tgt := 16) S.1 S.2.1 dX11_napMinutes_9 (by decide) (fun c3 => ?_) (fun c3 => ?_)
  · have h := h.1 c3
    refine lv_aload_n S.1 S.2.1 dX11_napMinutes_16 rfl (lv_at hl 1 rfl) ?_
    refine lv_iload_n S.1 S.2.1 dX11_napMinutes_17 rfl (lv_at hl 0 rfl) ?_
    refine lv_iconst (v := (nI 4)) S.1 S.2.1 dX11_napMinutes_18 (by decide) ?_
    refine mz_V S hG hM hS cf_10 k1 (As := [.int u2, .int (nI 4)]) (rest := [.ref o]) (c_X11_of h) yf_X11_of tw_1622 tw_1624 ts_36 ⟨Nat.le_of_ble_eq_true rfl, Nat.le_of_ble_eq_true rfl⟩ ⟨(Nat.le_of_ble_eq_true rfl), (Nat.le_of_ble_eq_true rfl)⟩ rfl hl.1 rfl (Nat.le_of_ble_eq_true rfl) dX11_napMinutes_19 (fun v9 μ9 H locs hp hM hS => ?_)
    obtain ⟨u4, rfl, e9, h⟩ := hp
    rw [e9] at hM
    refine W.cs (cells' := 0) (slots' := 0) rfl rfl ?_
    refine lv_bipush (v := (nI 110)) S.1 S.2.1 dX11_napMinutes_22 (by decide) ?_
    refine lv_icmp_ne (tgt := 31) S.1 S.2.1 dX11_napMinutes_24 (by decide) (fun c5 => ?_) (fun c5 => ?_)
    · have h := h.1 c5
      refine lv_iconst (v := (nI 2)) S.1 S.2.1 dX11_napMinutes_31 (by decide) ?_
      exact hB32  u2 (some o) (nI 2) μ H locs ls hM hS (lv_sub hl [1, 0] rfl) h
    · have h := h.2 c5
      refine lv_iconst (v := (nI 0)) S.1 S.2.1 dX11_napMinutes_27 (by decide) ?_
      refine lv_goto (tgt := 32) S.1 S.2.1 dX11_napMinutes_28 (by decide) ?_
      exact hB32  u2 (some o) (nI 0) μ H locs ls hM hS (lv_sub hl [1, 0] rfl) h
  · have h := h.2 c3
    refine lv_iconst (v := (nI 1)) S.1 S.2.1 dX11_napMinutes_12 (by decide) ?_
    refine lv_goto (tgt := 32) S.1 S.2.1 dX11_napMinutes_13 (by decide) ?_
    exact hB32  u2 (some o) (nI 1) μ H locs ls hM hS (lv_sub hl [1, 0] rfl) h
set_option maxRecDepth 100000 in
set_option maxHeartbeats 4000000 in
theorem c_X11_waitingMessage {l : Launch} {G : mgT} {μ : mmT} {o : Nat} {x1 : Int32} {Q : Int32 → mmT → Prop} (h : w_X11_waitingMessage G μ o x1 Q) : MC G l yX11_waitingMessage cX11_waitingMessage 3 (some .int) { frames := 2, cells := 0, slots := 0, locals := 46 } [.ref o, .int x1] μ (pI Q) := by
  refine mz_MC (by decide +kernel) (Nat.le_of_ble_eq_true rfl) (fun p e s m args below meth c S hG hr hlk hnm => ?_)
  have hB30 : ∀ (s0 : Int32) (μ : mmT) (H : Heap) (locs : List Loc) (ls : Array Slot), Mm G μ H → va_S (Ah G) s.heap H locs → lv_has ls 3 [(0, .ref o)] → w_X11_waitingMessage_b30 G o Q  s0 μ → W p l e { frames := 2, cells := 0, slots := 0, locals := 46 } s m args below meth c H locs 0 0 (MQ below (mQ G (pI Q)) args s 0 0 (Ah G)) (F0 m 30 ls [.int s0]) := by
    intro  s0 μ H locs ls hM hS hl h
    unfold w_X11_waitingMessage_b30 at h
    exact mz_iret S hr hlk hM hS rfl (Nat.le_of_ble_eq_true rfl) (Nat.le_of_ble_eq_true rfl) dX11_waitingMessage_30 ⟨_, rfl, h⟩
  intro H locs ls hM hS hl
  have hl : lv_has ls 3 [(0, .ref o), (1, .int x1)] := hl
  unfold w_X11_waitingMessage at h
  refine lv_aload_n S.1 S.2.1 dX11_waitingMessage_0 rfl (lv_at hl 0 rfl) ?_
  refine lv_iconst (v := (nI 0)) S.1 S.2.1 dX11_waitingMessage_1 (by decide) ?_
  obtain ⟨k1, h⟩ := h
  refine mz_puti S hG hM hS cf_10 fd_320 tw_1482 dX11_waitingMessage_2 k1 rfl rfl (fun H locs hM hS hz9 => ?_)
  refine lv_aload_n S.1 S.2.1 dX11_waitingMessage_5 rfl (lv_at hl 0 rfl) ?_
  refine lv_iload_n S.1 S.2.1 dX11_waitingMessage_6 rfl (lv_at hl 1 rfl) ?_
  refine mz_V S hG hM hS cf_10 k1 (As := [.int x1]) (rest := []) (c_X11_waiting h) yf_X11_waiting tw_1682 tw_1684 ts_47 ⟨Nat.le_of_ble_eq_true rfl, Nat.le_of_ble_eq_true rfl⟩ ⟨(Nat.le_of_ble_eq_true rfl), (Nat.le_of_ble_eq_true rfl)⟩ rfl hl.1 rfl (Nat.le_of_ble_eq_true rfl) dX11_waitingMessage_7 (fun v9 μ9 H locs hp hM hS => ?_)
  obtain ⟨u2, rfl, e9, h⟩ := hp
  rw [e9] at hM
  refine W.cs (cells' := 0) (slots' := 0) rfl rfl ?_
  refine lv_istore_n (lv' := [(2, .int u2), (0, .ref o), (1, .int x1)]) S.1 S.2.1 dX11_waitingMessage_10 rfl hl (by decide) rfl (fun ls hl => ?_)
  refine lv_iload_n S.1 S.2.1 dX11_waitingMessage_11 rfl (lv_at hl 0 rfl) ?_
  refine lv_iconst (v := (-1)) S.1 S.2.1 dX11_waitingMessage_12 (by decide) ?_
  refine lv_icmp_ne (tgt := 24) S.1 S.2.1 dX11_waitingMessage_13 (by decide) (fun c3 => ?_) (fun c3 => ?_)
  · have h := h.1 c3
    refine lv_aload_n S.1 S.2.1 dX11_waitingMessage_24 rfl (lv_at hl 1 rfl) ?_
    refine lv_iload_n S.1 S.2.1 dX11_waitingMessage_25 rfl (lv_at hl 0 rfl) ?_
    refine lv_iconst (v := (nI 0)) S.1 S.2.1 dX11_waitingMessage_26 (by decide) ?_
    refine mz_V S hG hM hS cf_10 k1 (As := [.int u2, .int (nI 0)]) (rest := []) (c_X11_of h) yf_X11_of tw_1622 tw_1624 ts_36 ⟨Nat.le_of_ble_eq_true rfl, Nat.le_of_ble_eq_true rfl⟩ ⟨(Nat.le_of_ble_eq_true rfl), (Nat.le_of_ble_eq_true rfl)⟩ rfl hl.1 rfl (Nat.le_of_ble_eq_true rfl) dX11_waitingMessage_27 (fun v9 μ9 H locs hp hM hS => ?_)
    obtain ⟨u4, rfl, e9, h⟩ := hp
    rw [e9] at hM
    refine W.cs (cells' := 0) (slots' := 0) rfl rfl ?_
    exact hB30  u4 (sI μ 320 o (nI 0)) H locs ls hM hS (lv_sub hl [1] rfl) h
  · have h := h.2 c3
    refine lv_aload_n S.1 S.2.1 dX11_waitingMessage_16 rfl (lv_at hl 1 rfl) ?_
    refine lv_iconst (v := (nI 1)) S.1 S.2.1 dX11_waitingMessage_17 (by decide) ?_
    refine mz_V S hG hM hS cf_10 k1 (As := [.int (nI 1)]) (rest := []) (c_X11_fails h) yf_X11_fails tw_1578 tw_1580 ts_28 ⟨Nat.le_of_ble_eq_true rfl, Nat.le_of_ble_eq_true rfl⟩ ⟨(Nat.le_of_ble_eq_true rfl), (Nat.le_of_ble_eq_true rfl)⟩ rfl hl.1 rfl (Nat.le_of_ble_eq_true rfl) dX11_waitingMessage_18 (fun v9 μ6 H locs hp hM hS => ?_)
    obtain ⟨u5, rfl, h⟩ := hp
    refine W.cs (cells' := 0) (slots' := 0) rfl rfl ?_
    refine lv_goto (tgt := 30) S.1 S.2.1 dX11_waitingMessage_21 (by decide) ?_
    exact hB30  u5 μ6 H locs ls hM hS (lv_sub hl [1] rfl) h
set_option maxRecDepth 100000 in
set_option maxHeartbeats 4000000 in
theorem c_X11_wouldBeLost {l : Launch} {G : mgT} {μ : mmT} {o : Nat} {x1 : Int32} {Q : Int32 → mmT → Prop} (h : w_X11_wouldBeLost G μ o x1 Q) : MC G l yX11_wouldBeLost cX11_wouldBeLost 3 (some .boolean) { frames := 2, cells := 0, slots := 0, locals := 44 } [.ref o, .int x1] μ (pI Q) := by
  refine mz_MC (by decide +kernel) (Nat.le_of_ble_eq_true rfl) (fun p e s m args below meth c S hG hr hlk hnm => ?_)
  have hB63 : ∀ (s0 : Int32) (μ : mmT) (H : Heap) (locs : List Loc) (ls : Array Slot), Mm G μ H → va_S (Ah G) s.heap H locs → lv_has ls 3 [(0, .ref o)] → w_X11_wouldBeLost_b63 G o Q  s0 μ → W p l e { frames := 2, cells := 0, slots := 0, locals := 44 } s m args below meth c H locs 0 0 (MQ below (mQ G (pI Q)) args s 0 0 (Ah G)) (F0 m 63 ls [.int s0]) := by
    intro  s0 μ H locs ls hM hS hl h
    unfold w_X11_wouldBeLost_b63 at h
    obtain ⟨f11, h⟩ := h
    exact mz_iret S hr hlk hM hS (mz_nZ f11) (Nat.le_of_ble_eq_true rfl) (Nat.le_of_ble_eq_true rfl) dX11_wouldBeLost_63 ⟨_, rfl, h⟩
  have hB62 : ∀ (μ : mmT) (H : Heap) (locs : List Loc) (ls : Array Slot), Mm G μ H → va_S (Ah G) s.heap H locs → lv_has ls 3 [(0, .ref o)] → w_X11_wouldBeLost_b62 G o Q  μ → W p l e { frames := 2, cells := 0, slots := 0, locals := 44 } s m args below meth c H locs 0 0 (MQ below (mQ G (pI Q)) args s 0 0 (Ah G)) (F0 m 62 ls []) := by
    intro  μ H locs ls hM hS hl h
    unfold w_X11_wouldBeLost_b62 at h
    refine lv_iconst (v := (nI 0)) S.1 S.2.1 dX11_wouldBeLost_62 (by decide) ?_
    exact hB63  (nI 0) μ H locs ls hM hS (lv_sub hl [0] rfl) h
  have hB32 : ∀ (x2 : Int32) (s0 : Option Nat) (s1 : Int32) (μ : mmT) (H : Heap) (locs : List Loc) (ls : Array Slot), Mm G μ H → va_S (Ah G) s.heap H locs → lv_has ls 3 [(0, .ref o), (2, .int x2)] → w_X11_wouldBeLost_b32 G o Q  x2 s0 s1 μ → W p l e { frames := 2, cells := 0, slots := 0, locals := 44 } s m args below meth c H locs 0 0 (MQ below (mQ G (pI Q)) args s 0 0 (Ah G)) (F0 m 32 ls [.int s1, va_rf s0]) := by
    intro  x2 s0 s1 μ H locs ls hM hS hl h
    unfold w_X11_wouldBeLost_b32 at h
    obtain ⟨a6, e7, h⟩ := h
    refine mz_o1 e7 ?_
    obtain ⟨k8, h⟩ := h
    refine mz_puti S hG hM hS cf_10 fd_320 tw_1482 dX11_wouldBeLost_32 k8 rfl rfl (fun H locs hM hS hz9 => ?_)
    refine lv_aload_n S.1 S.2.1 dX11_wouldBeLost_35 rfl (lv_at hl 0 rfl) ?_
    obtain ⟨k9, h⟩ := h
    refine mz_geti S hG hM cf_10 fd_320 tw_1482 dX11_wouldBeLost_36 k9 ?_
    refine lv_if_ne (tgt := 62) S.1 S.2.1 dX11_wouldBeLost_39 (by decide) (fun c10 => ?_) (fun c10 => ?_)
    · have h := h.1 c10
      exact hB62  (sI μ 320 a6 s1) H locs ls hM hS (lv_sub hl [0] rfl) h
    · have h := h.2 c10
      refine lv_aload_n S.1 S.2.1 dX11_wouldBeLost_42 rfl (lv_at hl 0 rfl) ?_
      refine lv_iload_n S.1 S.2.1 dX11_wouldBeLost_43 rfl (lv_at hl 1 rfl) ?_
      refine lv_aload_n S.1 S.2.1 dX11_wouldBeLost_44 rfl (lv_at hl 0 rfl) ?_
      refine lv_iload_n S.1 S.2.1 dX11_wouldBeLost_45 rfl (lv_at hl 1 rfl) ?_
      refine lv_iconst (v := (nI 3)) S.1 S.2.1 dX11_wouldBeLost_46 (by decide) ?_
      refine mz_V S hG hM hS cf_10 k9 (As := [.int x2, .int (nI 3)]) (rest := [.int x2, .ref o]) (c_X11_of h) yf_X11_of tw_1622 tw_1624 ts_36 ⟨Nat.le_of_ble_eq_true rfl, Nat.le_of_ble_eq_true rfl⟩ ⟨(Nat.le_of_ble_eq_true rfl), (Nat.le_of_ble_eq_true rfl)⟩ rfl hl.1 rfl (Nat.le_of_ble_eq_true rfl) dX11_wouldBeLost_47 (fun v9 μ9 H locs hp hM hS => ?_)
      obtain ⟨u12, rfl, e9, h⟩ := hp
      rw [e9] at hM
      refine W.cs (cells' := 0) (slots' := 0) rfl rfl ?_
      refine lv_iconst (v := (nI 1)) S.1 S.2.1 dX11_wouldBeLost_50 (by decide) ?_
      refine lv_iadd S.1 S.2.1 dX11_wouldBeLost_51 ?_
      refine mz_V S hG hM hS cf_10 k9 (As := [.int x2, .int (u12 + (nI 1))]) (rest := []) (c_X11_isLost h) yf_X11_isLost tw_1670 tw_1672 ts_44 ⟨Nat.le_of_ble_eq_true rfl, Nat.le_of_ble_eq_true rfl⟩ ⟨(Nat.le_of_ble_eq_true rfl), (Nat.le_of_ble_eq_true rfl)⟩ rfl hl.1 rfl (Nat.le_of_ble_eq_true rfl) dX11_wouldBeLost_52 (fun v9 μ9 H locs hp hM hS => ?_)
      obtain ⟨u13, rfl, e9, h⟩ := hp
      rw [e9] at hM
      refine W.cs (cells' := 0) (slots' := 0) rfl rfl ?_
      refine lv_if_eq (tgt := 62) S.1 S.2.1 dX11_wouldBeLost_55 (by decide) (fun c14 => ?_) (fun c14 => ?_)
      · have h := h.1 c14
        exact hB62  (sI μ 320 a6 s1) H locs ls hM hS (lv_sub hl [0] rfl) h
      · have h := h.2 c14
        refine lv_iconst (v := (nI 1)) S.1 S.2.1 dX11_wouldBeLost_58 (by decide) ?_
        refine lv_goto (tgt := 63) S.1 S.2.1 dX11_wouldBeLost_59 (by decide) ?_
        exact hB63  (nI 1) (sI μ 320 a6 s1) H locs ls hM hS (lv_sub hl [0] rfl) h
  intro H locs ls hM hS hl
  have hl : lv_has ls 3 [(0, .ref o), (1, .int x1)] := hl
  unfold w_X11_wouldBeLost at h
  refine lv_aload_n S.1 S.2.1 dX11_wouldBeLost_0 rfl (lv_at hl 0 rfl) ?_
  refine lv_iload_n S.1 S.2.1 dX11_wouldBeLost_1 rfl (lv_at hl 1 rfl) ?_
  obtain ⟨k1, h⟩ := h
  refine mz_V S hG hM hS cf_10 k1 (As := [.int x1]) (rest := []) (c_X11_placeOf h) yf_X11_placeOf tw_1618 tw_1620 ts_35 ⟨Nat.le_of_ble_eq_true rfl, Nat.le_of_ble_eq_true rfl⟩ ⟨(Nat.le_of_ble_eq_true rfl), (Nat.le_of_ble_eq_true rfl)⟩ rfl hl.1 rfl (Nat.le_of_ble_eq_true rfl) dX11_wouldBeLost_2 (fun v9 μ9 H locs hp hM hS => ?_)
  obtain ⟨u2, rfl, e9, h⟩ := hp
  rw [e9] at hM
  refine W.cs (cells' := 0) (slots' := 0) rfl rfl ?_
  refine lv_istore_n (lv' := [(2, .int u2), (0, .ref o), (1, .int x1)]) S.1 S.2.1 dX11_wouldBeLost_5 rfl hl (by decide) rfl (fun ls hl => ?_)
  refine lv_aload_n S.1 S.2.1 dX11_wouldBeLost_6 rfl (lv_at hl 1 rfl) ?_
  refine lv_iload_n S.1 S.2.1 dX11_wouldBeLost_7 rfl (lv_at hl 0 rfl) ?_
  refine lv_iconst (v := (-1)) S.1 S.2.1 dX11_wouldBeLost_8 (by decide) ?_
  refine lv_icmp_ne (tgt := 16) S.1 S.2.1 dX11_wouldBeLost_9 (by decide) (fun c3 => ?_) (fun c3 => ?_)
  · have h := h.1 c3
    refine lv_aload_n S.1 S.2.1 dX11_wouldBeLost_16 rfl (lv_at hl 1 rfl) ?_
    refine lv_iload_n S.1 S.2.1 dX11_wouldBeLost_17 rfl (lv_at hl 0 rfl) ?_
    refine lv_iconst (v := (nI 4)) S.1 S.2.1 dX11_wouldBeLost_18 (by decide) ?_
    refine mz_V S hG hM hS cf_10 k1 (As := [.int u2, .int (nI 4)]) (rest := [.ref o]) (c_X11_of h) yf_X11_of tw_1622 tw_1624 ts_36 ⟨Nat.le_of_ble_eq_true rfl, Nat.le_of_ble_eq_true rfl⟩ ⟨(Nat.le_of_ble_eq_true rfl), (Nat.le_of_ble_eq_true rfl)⟩ rfl hl.1 rfl (Nat.le_of_ble_eq_true rfl) dX11_wouldBeLost_19 (fun v9 μ9 H locs hp hM hS => ?_)
    obtain ⟨u4, rfl, e9, h⟩ := hp
    rw [e9] at hM
    refine W.cs (cells' := 0) (slots' := 0) rfl rfl ?_
    refine lv_bipush (v := (nI 100)) S.1 S.2.1 dX11_wouldBeLost_22 (by decide) ?_
    refine lv_icmp_ne (tgt := 31) S.1 S.2.1 dX11_wouldBeLost_24 (by decide) (fun c5 => ?_) (fun c5 => ?_)
    · have h := h.1 c5
      refine lv_iconst (v := (nI 0)) S.1 S.2.1 dX11_wouldBeLost_31 (by decide) ?_
      exact hB32  u2 (some o) (nI 0) μ H locs ls hM hS (lv_sub hl [1, 0] rfl) h
    · have h := h.2 c5
      refine lv_iconst (v := (nI 2)) S.1 S.2.1 dX11_wouldBeLost_27 (by decide) ?_
      refine lv_goto (tgt := 32) S.1 S.2.1 dX11_wouldBeLost_28 (by decide) ?_
      exact hB32  u2 (some o) (nI 2) μ H locs ls hM hS (lv_sub hl [1, 0] rfl) h
  · have h := h.2 c3
    refine lv_iconst (v := (nI 1)) S.1 S.2.1 dX11_wouldBeLost_12 (by decide) ?_
    refine lv_goto (tgt := 32) S.1 S.2.1 dX11_wouldBeLost_13 (by decide) ?_
    exact hB32  u2 (some o) (nI 1) μ H locs ls hM hS (lv_sub hl [1, 0] rfl) h
set_option maxRecDepth 100000 in
set_option maxHeartbeats 4000000 in
theorem c_X11_napLength {l : Launch} {G : mgT} {μ : mmT} {o : Nat} {x1 : Int32} {Q : Int64 → mmT → Prop} (h : w_X11_napLength G μ o x1 Q) : MC G l yX11_napLength cX11_napLength 5 (some .long) { frames := 1, cells := 0, slots := 0, locals := 22 } [.ref o, .int x1] μ (pL Q) := by
  refine mz_MC (by decide +kernel) (Nat.le_of_ble_eq_true rfl) (fun p e s m args below meth c S hG hr hlk hnm => ?_)
  have hB59 : ∀ (s0 : Int64) (μ : mmT) (H : Heap) (locs : List Loc) (ls : Array Slot), Mm G μ H → va_S (Ah G) s.heap H locs → lv_has ls 5 [(0, .ref o)] → w_X11_napLength_b59 G o Q  s0 μ → W p l e { frames := 1, cells := 0, slots := 0, locals := 22 } s m args below meth c H locs 0 0 (MQ below (mQ G (pL Q)) args s 0 0 (Ah G)) (F0 m 59 ls [.long s0]) := by
    intro  s0 μ H locs ls hM hS hl h
    unfold w_X11_napLength_b59 at h
    exact mz_lret S hr hlk hM hS (Nat.le_of_ble_eq_true rfl) (Nat.le_of_ble_eq_true rfl) dX11_napLength_59 ⟨_, rfl, h⟩
  have hB47 : ∀ (x2 : Int64) (μ : mmT) (H : Heap) (locs : List Loc) (ls : Array Slot), Mm G μ H → va_S (Ah G) s.heap H locs → lv_has ls 5 [(0, .ref o), (2, .long x2)] → w_X11_napLength_b47 G o Q  x2 μ → W p l e { frames := 1, cells := 0, slots := 0, locals := 22 } s m args below meth c H locs 0 0 (MQ below (mQ G (pL Q)) args s 0 0 (Ah G)) (F0 m 47 ls []) := by
    intro  x2 μ H locs ls hM hS hl h
    unfold w_X11_napLength_b47 at h
    refine lv_aload_n S.1 S.2.1 dX11_napLength_47 rfl (lv_at hl 0 rfl) ?_
    obtain ⟨k7, h⟩ := h
    refine mz_geti S hG hM cf_10 fd_320 tw_1482 dX11_napLength_48 k7 ?_
    refine lv_if_le (tgt := 58) S.1 S.2.1 dX11_napLength_51 (by decide) (fun c8 => ?_) (fun c8 => ?_)
    · have h := h.1 c8
      refine lv_lload_n S.1 S.2.1 dX11_napLength_58 rfl (lv_at hl 1 rfl) ?_
      exact hB59  x2 μ H locs ls hM hS (lv_sub hl [0] rfl) h
    · have h := h.2 c8
      refine lv_lconst (v := lN 0) S.1 S.2.1 dX11_napLength_54 rfl ?_
      refine lv_goto (tgt := 59) S.1 S.2.1 dX11_napLength_55 (by decide) ?_
      exact hB59  (lN 0) μ H locs ls hM hS (lv_sub hl [0] rfl) h
  have hB24 : ∀ (n : Nat) (x1 : Int32) (x2 : Int64) (x4 : Int32) (μ : mmT) (H : Heap) (locs : List Loc) (ls : Array Slot), Mm G μ H → va_S (Ah G) s.heap H locs → lv_has ls 5 [(0, .ref o), (1, .int x1), (2, .long x2), (4, .int x4)] → w_X11_napLength_l24 G o Q  n x1 x2 x4 μ → W p l e { frames := 1, cells := 0, slots := 0, locals := 22 } s m args below meth c H locs 0 0 (MQ below (mQ G (pL Q)) args s 0 0 (Ah G)) (F0 m 24 ls []) := by
    intro  n
    induction n with
    | zero =>
      intro x1 x2 x4 μ H locs ls hM hS hl h
      exact False.elim h
    | succ n ih =>
      intro x1 x2 x4 μ H locs ls hM hS hl h
      have h : w_X11_napLength_b24 G o Q  (w_X11_napLength_l24 G o Q  n) x1 x2 x4 μ := h
      unfold w_X11_napLength_b24 at h
      refine lv_iload S.1 S.2.1 dX11_napLength_24 (lv_at hl 3 rfl) ?_
      refine lv_iload_n S.1 S.2.1 dX11_napLength_26 rfl (lv_at hl 1 rfl) ?_
      refine lv_icmp_ge (tgt := 47) S.1 S.2.1 dX11_napLength_27 (by decide) (fun c6 => ?_) (fun c6 => ?_)
      · have h := h.1 c6
        exact hB47  x2 μ H locs ls hM hS (lv_sub hl [0, 2] rfl) h
      · have h := h.2 c6
        refine lv_aload_n S.1 S.2.1 dX11_napLength_30 rfl (lv_at hl 0 rfl) ?_
        obtain ⟨k9, h⟩ := h
        refine mz_geti S hG hM cf_10 fd_320 tw_1482 dX11_napLength_31 k9 ?_
        refine lv_if_ne (tgt := 47) S.1 S.2.1 dX11_napLength_34 (by decide) (fun c10 => ?_) (fun c10 => ?_)
        · have h := h.1 c10
          exact hB47  x2 μ H locs ls hM hS (lv_sub hl [0, 2] rfl) h
        · have h := h.2 c10
          refine lv_lload_n S.1 S.2.1 dX11_napLength_37 rfl (lv_at hl 2 rfl) ?_
          refine lv_lload_n S.1 S.2.1 dX11_napLength_38 rfl (lv_at hl 2 rfl) ?_
          refine lv_ladd S.1 S.2.1 dX11_napLength_39 ?_
          refine lv_lstore_n (lv' := [(2, .long (x2 + x2)), (0, .ref o), (1, .int x1), (4, .int x4)]) S.1 S.2.1 dX11_napLength_40 rfl hl (by decide) rfl (fun ls hl => ?_)
          refine lv_iinc (v := (x4 + nI 1)) (lv' := [(4, .int (x4 + nI 1)), (2, .long (x2 + x2)), (0, .ref o), (1, .int x1)]) S.1 S.2.1 dX11_napLength_41 hl (k := 3) rfl rfl (by decide) rfl (fun ls hl => ?_)
          refine lv_goto (tgt := 24) S.1 S.2.1 dX11_napLength_44 (by decide) ?_
          exact ih x1 (x2 + x2) (x4 + nI 1) μ H locs ls hM hS (lv_sub hl [2, 3, 1, 0] rfl) h
  have hB16 : ∀ (x1 : Int32) (s0 : Option Nat) (s1 : Int32) (μ : mmT) (H : Heap) (locs : List Loc) (ls : Array Slot), Mm G μ H → va_S (Ah G) s.heap H locs → lv_has ls 5 [(0, .ref o), (1, .int x1)] → w_X11_napLength_b16 G o Q  x1 s0 s1 μ → W p l e { frames := 1, cells := 0, slots := 0, locals := 22 } s m args below meth c H locs 0 0 (MQ below (mQ G (pL Q)) args s 0 0 (Ah G)) (F0 m 16 ls [.int s1, va_rf s0]) := by
    intro  x1 s0 s1 μ H locs ls hM hS hl h
    unfold w_X11_napLength_b16 at h
    obtain ⟨a3, e4, h⟩ := h
    refine mz_o1 e4 ?_
    obtain ⟨k5, h⟩ := h
    refine mz_puti S hG hM hS cf_10 fd_320 tw_1482 dX11_napLength_16 k5 rfl rfl (fun H locs hM hS hz9 => ?_)
    refine lv_lconst (v := lN 1) S.1 S.2.1 dX11_napLength_19 rfl ?_
    refine lv_lstore_n (lv' := [(2, .long (lN 1)), (0, .ref o), (1, .int x1)]) S.1 S.2.1 dX11_napLength_20 rfl hl (by decide) rfl (fun ls hl => ?_)
    refine lv_iconst (v := (nI 0)) S.1 S.2.1 dX11_napLength_21 (by decide) ?_
    refine lv_istore (lv' := [(4, .int (nI 0)), (2, .long (lN 1)), (0, .ref o), (1, .int x1)]) S.1 S.2.1 dX11_napLength_22 hl (by decide) rfl (fun ls hl => ?_)
    obtain ⟨n9, h⟩ := h
    exact hB24  n9 x1 (lN 1) (nI 0) (sI μ 320 a3 s1) H locs ls hM hS (lv_sub hl [2, 3, 1, 0] rfl) h
  intro H locs ls hM hS hl
  have hl : lv_has ls 5 [(0, .ref o), (1, .int x1)] := hl
  unfold w_X11_napLength at h
  refine lv_aload_n S.1 S.2.1 dX11_napLength_0 rfl (lv_at hl 0 rfl) ?_
  refine lv_iload_n S.1 S.2.1 dX11_napLength_1 rfl (lv_at hl 1 rfl) ?_
  refine lv_iconst (v := (nI 0)) S.1 S.2.1 dX11_napLength_2 (by decide) ?_
  refine lv_bipush (v := (nI 40)) S.1 S.2.1 dX11_napLength_3 (by decide) ?_
  refine mz_S S hG hM hS (As := [.int x1, .int (nI 0), .int (nI 40)]) (rest := [.ref o]) (c_X11_in h) yf_X11_in tw_1559 tw_1560 ⟨Nat.le_of_ble_eq_true rfl, Nat.le_of_ble_eq_true rfl⟩ ⟨(Nat.le_of_ble_eq_true rfl), (Nat.le_of_ble_eq_true rfl)⟩ rfl hl.1 rfl (Nat.le_of_ble_eq_true rfl) dX11_napLength_5 (fun v9 μ9 H locs hp hM hS => ?_)
  obtain ⟨u1, rfl, e9, h⟩ := hp
  rw [e9] at hM
  refine W.cs (cells' := 0) (slots' := 0) rfl rfl ?_
  refine lv_if_eq (tgt := 15) S.1 S.2.1 dX11_napLength_8 (by decide) (fun c2 => ?_) (fun c2 => ?_)
  · have h := h.1 c2
    refine lv_iconst (v := (nI 1)) S.1 S.2.1 dX11_napLength_15 (by decide) ?_
    exact hB16  x1 (some o) (nI 1) μ H locs ls hM hS (lv_sub hl [0, 1] rfl) h
  · have h := h.2 c2
    refine lv_iconst (v := (nI 0)) S.1 S.2.1 dX11_napLength_11 (by decide) ?_
    refine lv_goto (tgt := 16) S.1 S.2.1 dX11_napLength_12 (by decide) ?_
    exact hB16  x1 (some o) (nI 0) μ H locs ls hM hS (lv_sub hl [0, 1] rfl) h

set_option maxRecDepth 100000 in
set_option maxHeartbeats 4000000 in
theorem c_X11_napLengthByDoubling {l : Launch} {G : mgT} {μ : mmT} {o : Nat} {x1 : Int32} {Q : Int64 → mmT → Prop} (h : w_X11_napLengthByDoubling G μ o x1 Q) : MC G l yX11_napLengthByDoubling cX11_napLengthByDoubling 2 (some .long) { frames := 2, cells := 0, slots := 0, locals := 46 } [.ref o, .int x1] μ (pL Q) := by
  refine mz_MC (by decide +kernel) (Nat.le_of_ble_eq_true rfl) (fun p e s m args below meth c S hG hr hlk hnm => ?_)
  intro H locs ls hM hS hl
  have hl : lv_has ls 2 [(0, .ref o), (1, .int x1)] := hl
  unfold w_X11_napLengthByDoubling at h
  refine lv_aload_n S.1 S.2.1 dX11_napLengthByDoubling_0 rfl (lv_at hl 0 rfl) ?_
  refine lv_iload_n S.1 S.2.1 dX11_napLengthByDoubling_1 rfl (lv_at hl 1 rfl) ?_
  obtain ⟨k1, h⟩ := h
  refine mz_V S hG hM hS cf_10 k1 (As := [.int x1]) (rest := []) (c_X11_napLength h) yf_X11_napLength tw_1794 tw_1787 tw_1788 ⟨Nat.le_of_ble_eq_true rfl, Nat.le_of_ble_eq_true rfl⟩ ⟨(Nat.le_of_ble_eq_true rfl), (Nat.le_of_ble_eq_true rfl)⟩ rfl hl.1 rfl (Nat.le_of_ble_eq_true rfl) dX11_napLengthByDoubling_2 (fun v9 μ3 H locs hp hM hS => ?_)
  obtain ⟨u2, rfl, h⟩ := hp
  refine W.cs (cells' := 0) (slots' := 0) rfl rfl ?_
  exact mz_lret S hr hlk hM hS (Nat.le_of_ble_eq_true rfl) (Nat.le_of_ble_eq_true rfl) dX11_napLengthByDoubling_5 ⟨_, rfl, h⟩
set_option maxRecDepth 100000 in
set_option maxHeartbeats 4000000 in
theorem c_X11_minutesUntilDelivered {l : Launch} {G : mgT} {μ : mmT} {o : Nat} {x1 : Int32} {Q : Int32 → mmT → Prop} (h : w_X11_minutesUntilDelivered G μ o x1 Q) : MC G l yX11_minutesUntilDelivered cX11_minutesUntilDelivered 6 (some .int) { frames := 4, cells := 0, slots := 0, locals := 94 } [.ref o, .int x1] μ (pI Q) := by
  refine mz_MC (by decide +kernel) (Nat.le_of_ble_eq_true rfl) (fun p e s m args below meth c S hG hr hlk hnm => ?_)
  have hB182 : ∀ (s0 : Int32) (μ : mmT) (H : Heap) (locs : List Loc) (ls : Array Slot), Mm G μ H → va_S (Ah G) s.heap H locs → lv_has ls 6 [(0, .ref o)] → w_X11_minutesUntilDelivered_b182 G o Q  s0 μ → W p l e { frames := 4, cells := 0, slots := 0, locals := 94 } s m args below meth c H locs 0 0 (MQ below (mQ G (pI Q)) args s 0 0 (Ah G)) (F0 m 182 ls [.int s0]) := by
    intro  s0 μ H locs ls hM hS hl h
    unfold w_X11_minutesUntilDelivered_b182 at h
    exact mz_iret S hr hlk hM hS rfl (Nat.le_of_ble_eq_true rfl) (Nat.le_of_ble_eq_true rfl) dX11_minutesUntilDelivered_182 ⟨_, rfl, h⟩
  have hB141 : ∀ (n : Nat) (x3 : Int32) (x4 : Int32) (μ : mmT) (H : Heap) (locs : List Loc) (ls : Array Slot), Mm G μ H → va_S (Ah G) s.heap H locs → lv_has ls 6 [(0, .ref o), (3, .int x3), (4, .int x4)] → w_X11_minutesUntilDelivered_l141 G o Q  n x3 x4 μ → W p l e { frames := 4, cells := 0, slots := 0, locals := 94 } s m args below meth c H locs 0 0 (MQ below (mQ G (pI Q)) args s 0 0 (Ah G)) (F0 m 141 ls []) := by
    intro  n
    induction n with
    | zero =>
      intro x3 x4 μ H locs ls hM hS hl h
      exact False.elim h
    | succ n ih =>
      intro x3 x4 μ H locs ls hM hS hl h
      have h : w_X11_minutesUntilDelivered_b141 G o Q  (w_X11_minutesUntilDelivered_l141 G o Q  n) x3 x4 μ := h
      unfold w_X11_minutesUntilDelivered_b141 at h
      refine lv_iload S.1 S.2.1 dX11_minutesUntilDelivered_141 (lv_at hl 2 rfl) ?_
      refine lv_sipush (v := (nI 258)) S.1 S.2.1 dX11_minutesUntilDelivered_143 (by decide) ?_
      refine lv_icmp_ge (tgt := 169) S.1 S.2.1 dX11_minutesUntilDelivered_146 (by decide) (fun c13 => ?_) (fun c13 => ?_)
      · have h := h.1 c13
        refine lv_iload_n S.1 S.2.1 dX11_minutesUntilDelivered_169 rfl (lv_at hl 1 rfl) ?_
        refine lv_if_ne (tgt := 181) S.1 S.2.1 dX11_minutesUntilDelivered_170 (by decide) (fun c14 => ?_) (fun c14 => ?_)
        · have h := h.1 c14
          refine lv_iload_n S.1 S.2.1 dX11_minutesUntilDelivered_181 rfl (lv_at hl 1 rfl) ?_
          exact hB182  x3 μ H locs ls hM hS (lv_sub hl [0] rfl) h
        · have h := h.2 c14
          refine lv_aload_n S.1 S.2.1 dX11_minutesUntilDelivered_173 rfl (lv_at hl 0 rfl) ?_
          refine lv_iconst (v := (nI 2)) S.1 S.2.1 dX11_minutesUntilDelivered_174 (by decide) ?_
          obtain ⟨k15, h⟩ := h
          refine mz_V S hG hM hS cf_10 k15 (As := [.int (nI 2)]) (rest := []) (c_X11_fails h) yf_X11_fails tw_1578 tw_1580 ts_28 ⟨Nat.le_of_ble_eq_true rfl, Nat.le_of_ble_eq_true rfl⟩ ⟨(Nat.le_of_ble_eq_true rfl), (Nat.le_of_ble_eq_true rfl)⟩ rfl hl.1 rfl (Nat.le_of_ble_eq_true rfl) dX11_minutesUntilDelivered_175 (fun v9 μ17 H locs hp hM hS => ?_)
          obtain ⟨u16, rfl, h⟩ := hp
          refine W.cs (cells' := 0) (slots' := 0) rfl rfl ?_
          refine lv_goto (tgt := 182) S.1 S.2.1 dX11_minutesUntilDelivered_178 (by decide) ?_
          exact hB182  u16 μ17 H locs ls hM hS (lv_sub hl [0] rfl) h
      · have h := h.2 c13
        refine lv_aload_n S.1 S.2.1 dX11_minutesUntilDelivered_149 rfl (lv_at hl 0 rfl) ?_
        obtain ⟨k18, h⟩ := h
        refine mz_getr S hG hM cf_10 fd_321 tw_1483 dX11_minutesUntilDelivered_150 k18 ?_
        refine lv_iload S.1 S.2.1 dX11_minutesUntilDelivered_153 (lv_at hl 2 rfl) ?_
        refine lv_aload_n S.1 S.2.1 dX11_minutesUntilDelivered_155 rfl (lv_at hl 0 rfl) ?_
        refine mz_getr S hG hM cf_10 fd_325 tw_1487 dX11_minutesUntilDelivered_156 k18 ?_
        refine lv_iload S.1 S.2.1 dX11_minutesUntilDelivered_159 (lv_at hl 2 rfl) ?_
        obtain ⟨a19, e20, h⟩ := h
        refine mz_o1 e20 ?_
        obtain ⟨k21, h⟩ := h
        obtain ⟨b22, h⟩ := h
        refine mz_iald S hG hM dX11_minutesUntilDelivered_161 k21 b22 ?_
        obtain ⟨a23, e24, h⟩ := h
        refine mz_o2 e24 ?_
        obtain ⟨k25, h⟩ := h
        obtain ⟨b26, h⟩ := h
        refine mz_iast S hG hM hS dX11_minutesUntilDelivered_162 k25 b26 (fun H locs hM hS hz9 => ?_)
        refine lv_iinc (v := (x4 + nI 1)) (lv' := [(4, .int (x4 + nI 1)), (0, .ref o), (3, .int x3)]) S.1 S.2.1 dX11_minutesUntilDelivered_163 hl (k := 2) rfl rfl (by decide) rfl (fun ls hl => ?_)
        refine lv_goto (tgt := 141) S.1 S.2.1 dX11_minutesUntilDelivered_166 (by decide) ?_
        exact ih x3 (x4 + nI 1) (sA μ a23 x4.toNatClampNeg (mA μ a19 x4.toNatClampNeg)) H locs ls hM hS (lv_sub hl [1, 2, 0] rfl) h
  have hB138 : ∀ (x3 : Int32) (μ : mmT) (H : Heap) (locs : List Loc) (ls : Array Slot), Mm G μ H → va_S (Ah G) s.heap H locs → lv_has ls 6 [(0, .ref o), (3, .int x3)] → w_X11_minutesUntilDelivered_b138 G o Q  x3 μ → W p l e { frames := 4, cells := 0, slots := 0, locals := 94 } s m args below meth c H locs 0 0 (MQ below (mQ G (pI Q)) args s 0 0 (Ah G)) (F0 m 138 ls []) := by
    intro  x3 μ H locs ls hM hS hl h
    unfold w_X11_minutesUntilDelivered_b138 at h
    refine lv_iconst (v := (nI 0)) S.1 S.2.1 dX11_minutesUntilDelivered_138 (by decide) ?_
    refine lv_istore (lv' := [(4, .int (nI 0)), (0, .ref o), (3, .int x3)]) S.1 S.2.1 dX11_minutesUntilDelivered_139 hl (by decide) rfl (fun ls hl => ?_)
    obtain ⟨n9, h⟩ := h
    exact hB141  n9 x3 (nI 0) μ H locs ls hM hS (lv_sub hl [1, 2, 0] rfl) h
  have hB131 : ∀ (K76 : Int32 → Int32 → Int32 → mmT → Prop) (kK76 : ∀ (x1 : Int32) (x3 : Int32) (x4 : Int32) (μ : mmT) (H : Heap) (locs : List Loc) (ls : Array Slot), Mm G μ H → va_S (Ah G) s.heap H locs → lv_has ls 6 [(0, .ref o), (1, .int x1), (3, .int x3), (4, .int x4)] → K76 x1 x3 x4 μ → W p l e { frames := 4, cells := 0, slots := 0, locals := 94 } s m args below meth c H locs 0 0 (MQ below (mQ G (pI Q)) args s 0 0 (Ah G)) (F0 m 76 ls [])) (x1 : Int32) (x4 : Int32) (s0 : Int32) (μ : mmT) (H : Heap) (locs : List Loc) (ls : Array Slot), Mm G μ H → va_S (Ah G) s.heap H locs → lv_has ls 6 [(0, .ref o), (1, .int x1), (4, .int x4)] → w_X11_minutesUntilDelivered_b131 G o Q K76 x1 x4 s0 μ → W p l e { frames := 4, cells := 0, slots := 0, locals := 94 } s m args below meth c H locs 0 0 (MQ below (mQ G (pI Q)) args s 0 0 (Ah G)) (F0 m 131 ls [.int s0]) := by
    intro K76 kK76 x1 x4 s0 μ H locs ls hM hS hl h
    unfold w_X11_minutesUntilDelivered_b131 at h
    refine lv_istore_n (lv' := [(3, .int s0), (0, .ref o), (1, .int x1), (4, .int x4)]) S.1 S.2.1 dX11_minutesUntilDelivered_131 rfl hl (by decide) rfl (fun ls hl => ?_)
    refine lv_iinc (v := (x4 + nI 1)) (lv' := [(4, .int (x4 + nI 1)), (3, .int s0), (0, .ref o), (1, .int x1)]) S.1 S.2.1 dX11_minutesUntilDelivered_132 hl (k := 3) rfl rfl (by decide) rfl (fun ls hl => ?_)
    refine lv_goto (tgt := 76) S.1 S.2.1 dX11_minutesUntilDelivered_135 (by decide) ?_
    exact kK76 x1 s0 (x4 + nI 1) μ H locs ls hM hS (lv_sub hl [2, 3, 1, 0] rfl) h
  have hB130 : ∀ (K76 : Int32 → Int32 → Int32 → mmT → Prop) (kK76 : ∀ (x1 : Int32) (x3 : Int32) (x4 : Int32) (μ : mmT) (H : Heap) (locs : List Loc) (ls : Array Slot), Mm G μ H → va_S (Ah G) s.heap H locs → lv_has ls 6 [(0, .ref o), (1, .int x1), (3, .int x3), (4, .int x4)] → K76 x1 x3 x4 μ → W p l e { frames := 4, cells := 0, slots := 0, locals := 94 } s m args below meth c H locs 0 0 (MQ below (mQ G (pI Q)) args s 0 0 (Ah G)) (F0 m 76 ls [])) (x1 : Int32) (x4 : Int32) (μ : mmT) (H : Heap) (locs : List Loc) (ls : Array Slot), Mm G μ H → va_S (Ah G) s.heap H locs → lv_has ls 6 [(0, .ref o), (1, .int x1), (4, .int x4)] → w_X11_minutesUntilDelivered_b130 G o Q K76 x1 x4 μ → W p l e { frames := 4, cells := 0, slots := 0, locals := 94 } s m args below meth c H locs 0 0 (MQ below (mQ G (pI Q)) args s 0 0 (Ah G)) (F0 m 130 ls []) := by
    intro K76 kK76 x1 x4 μ H locs ls hM hS hl h
    unfold w_X11_minutesUntilDelivered_b130 at h
    refine lv_iconst (v := (nI 0)) S.1 S.2.1 dX11_minutesUntilDelivered_130 (by decide) ?_
    exact hB131 K76 kK76 x1 x4 (nI 0) μ H locs ls hM hS (lv_sub hl [0, 1, 2] rfl) h
  have hB76 : ∀ (n : Nat) (x1 : Int32) (x3 : Int32) (x4 : Int32) (μ : mmT) (H : Heap) (locs : List Loc) (ls : Array Slot), Mm G μ H → va_S (Ah G) s.heap H locs → lv_has ls 6 [(0, .ref o), (1, .int x1), (3, .int x3), (4, .int x4)] → w_X11_minutesUntilDelivered_l76 G o Q  n x1 x3 x4 μ → W p l e { frames := 4, cells := 0, slots := 0, locals := 94 } s m args below meth c H locs 0 0 (MQ below (mQ G (pI Q)) args s 0 0 (Ah G)) (F0 m 76 ls []) := by
    intro  n
    induction n with
    | zero =>
      intro x1 x3 x4 μ H locs ls hM hS hl h
      exact False.elim h
    | succ n ih =>
      intro x1 x3 x4 μ H locs ls hM hS hl h
      have h : w_X11_minutesUntilDelivered_b76 G o Q  (w_X11_minutesUntilDelivered_l76 G o Q  n) x1 x3 x4 μ := h
      unfold w_X11_minutesUntilDelivered_b76 at h
      refine lv_iload S.1 S.2.1 dX11_minutesUntilDelivered_76 (lv_at hl 3 rfl) ?_
      refine lv_bipush (v := (nI 100)) S.1 S.2.1 dX11_minutesUntilDelivered_78 (by decide) ?_
      refine lv_icmp_gt (tgt := 138) S.1 S.2.1 dX11_minutesUntilDelivered_80 (by decide) (fun c12 => ?_) (fun c12 => ?_)
      · have h := h.1 c12
        exact hB138  x3 μ H locs ls hM hS (lv_sub hl [0, 2] rfl) h
      · have h := h.2 c12
        refine lv_iload_n S.1 S.2.1 dX11_minutesUntilDelivered_83 rfl (lv_at hl 2 rfl) ?_
        refine lv_if_ne (tgt := 138) S.1 S.2.1 dX11_minutesUntilDelivered_84 (by decide) (fun c27 => ?_) (fun c27 => ?_)
        · have h := h.1 c27
          exact hB138  x3 μ H locs ls hM hS (lv_sub hl [0, 2] rfl) h
        · have h := h.2 c27
          refine lv_aload_n S.1 S.2.1 dX11_minutesUntilDelivered_87 rfl (lv_at hl 0 rfl) ?_
          refine lv_iload_n S.1 S.2.1 dX11_minutesUntilDelivered_88 rfl (lv_at hl 1 rfl) ?_
          obtain ⟨k28, h⟩ := h
          refine mz_V S hG hM hS cf_10 k28 (As := [.int x1]) (rest := []) (c_X11_placeOf h) yf_X11_placeOf tw_1618 tw_1620 ts_35 ⟨Nat.le_of_ble_eq_true rfl, Nat.le_of_ble_eq_true rfl⟩ ⟨(Nat.le_of_ble_eq_true rfl), (Nat.le_of_ble_eq_true rfl)⟩ rfl hl.1 rfl (Nat.le_of_ble_eq_true rfl) dX11_minutesUntilDelivered_89 (fun v9 μ9 H locs hp hM hS => ?_)
          obtain ⟨u29, rfl, e9, h⟩ := hp
          rw [e9] at hM
          refine W.cs (cells' := 0) (slots' := 0) rfl rfl ?_
          refine lv_iconst (v := (-1)) S.1 S.2.1 dX11_minutesUntilDelivered_92 (by decide) ?_
          refine lv_icmp_eq (tgt := 138) S.1 S.2.1 dX11_minutesUntilDelivered_93 (by decide) (fun c30 => ?_) (fun c30 => ?_)
          · have h := h.1 c30
            exact hB138  x3 μ H locs ls hM hS (lv_sub hl [0, 2] rfl) h
          · have h := h.2 c30
            refine lv_aload_n S.1 S.2.1 dX11_minutesUntilDelivered_96 rfl (lv_at hl 0 rfl) ?_
            refine mz_V S hG hM hS cf_10 k28 (As := []) (rest := []) (c_X11_minute h) yf_X11_minute tw_1662 tw_1664 ts_42 ⟨Nat.le_of_ble_eq_true rfl, Nat.le_of_ble_eq_true rfl⟩ ⟨(Nat.le_of_ble_eq_true rfl), (Nat.le_of_ble_eq_true rfl)⟩ rfl hl.1 rfl (Nat.le_of_ble_eq_true rfl) dX11_minutesUntilDelivered_97 (fun v9 μ31 H locs hp hM hS => ?_)
            obtain ⟨rfl, h⟩ := hp
            refine W.cs (cells' := 0) (slots' := 0) rfl rfl ?_
            refine lv_aload_n S.1 S.2.1 dX11_minutesUntilDelivered_100 rfl (lv_at hl 0 rfl) ?_
            refine lv_iload_n S.1 S.2.1 dX11_minutesUntilDelivered_101 rfl (lv_at hl 1 rfl) ?_
            obtain ⟨k32, h⟩ := h
            refine mz_V S hG hM hS cf_10 k32 (As := [.int x1]) (rest := []) (c_X11_placeOf h) yf_X11_placeOf tw_1618 tw_1620 ts_35 ⟨Nat.le_of_ble_eq_true rfl, Nat.le_of_ble_eq_true rfl⟩ ⟨(Nat.le_of_ble_eq_true rfl), (Nat.le_of_ble_eq_true rfl)⟩ rfl hl.1 rfl (Nat.le_of_ble_eq_true rfl) dX11_minutesUntilDelivered_102 (fun v9 μ9 H locs hp hM hS => ?_)
            obtain ⟨u33, rfl, e9, h⟩ := hp
            rw [e9] at hM
            refine W.cs (cells' := 0) (slots' := 0) rfl rfl ?_
            refine lv_istore (lv' := [(5, .int u33), (0, .ref o), (1, .int x1), (3, .int x3), (4, .int x4)]) S.1 S.2.1 dX11_minutesUntilDelivered_105 hl (by decide) rfl (fun ls hl => ?_)
            refine lv_iload S.1 S.2.1 dX11_minutesUntilDelivered_107 (lv_at hl 0 rfl) ?_
            refine lv_iconst (v := (-1)) S.1 S.2.1 dX11_minutesUntilDelivered_109 (by decide) ?_
            refine lv_icmp_eq (tgt := 130) S.1 S.2.1 dX11_minutesUntilDelivered_110 (by decide) (fun c34 => ?_) (fun c34 => ?_)
            · have h := h.1 c34
              exact hB130 (w_X11_minutesUntilDelivered_l76 G o Q  n) ih x1 x4 μ31 H locs ls hM hS (lv_sub hl [1, 2, 4] rfl) h
            · have h := h.2 c34
              refine lv_aload_n S.1 S.2.1 dX11_minutesUntilDelivered_113 rfl (lv_at hl 1 rfl) ?_
              refine lv_iload S.1 S.2.1 dX11_minutesUntilDelivered_114 (lv_at hl 0 rfl) ?_
              refine lv_iconst (v := (nI 4)) S.1 S.2.1 dX11_minutesUntilDelivered_116 (by decide) ?_
              refine mz_V S hG hM hS cf_10 k32 (As := [.int u33, .int (nI 4)]) (rest := []) (c_X11_of h) yf_X11_of tw_1622 tw_1624 ts_36 ⟨Nat.le_of_ble_eq_true rfl, Nat.le_of_ble_eq_true rfl⟩ ⟨(Nat.le_of_ble_eq_true rfl), (Nat.le_of_ble_eq_true rfl)⟩ rfl hl.1 rfl (Nat.le_of_ble_eq_true rfl) dX11_minutesUntilDelivered_117 (fun v9 μ9 H locs hp hM hS => ?_)
              obtain ⟨u35, rfl, e9, h⟩ := hp
              rw [e9] at hM
              refine W.cs (cells' := 0) (slots' := 0) rfl rfl ?_
              refine lv_bipush (v := (nI 100)) S.1 S.2.1 dX11_minutesUntilDelivered_120 (by decide) ?_
              refine lv_icmp_ne (tgt := 130) S.1 S.2.1 dX11_minutesUntilDelivered_122 (by decide) (fun c36 => ?_) (fun c36 => ?_)
              · have h := h.1 c36
                exact hB130 (w_X11_minutesUntilDelivered_l76 G o Q  n) ih x1 x4 μ31 H locs ls hM hS (lv_sub hl [1, 2, 4] rfl) h
              · have h := h.2 c36
                refine lv_iload S.1 S.2.1 dX11_minutesUntilDelivered_125 (lv_at hl 4 rfl) ?_
                refine lv_goto (tgt := 131) S.1 S.2.1 dX11_minutesUntilDelivered_127 (by decide) ?_
                exact hB131 (w_X11_minutesUntilDelivered_l76 G o Q  n) ih x1 x4 x4 μ31 H locs ls hM hS (lv_sub hl [1, 2, 4] rfl) h
  have hB46 : ∀ (n : Nat) (x1 : Int32) (x3 : Int32) (μ : mmT) (H : Heap) (locs : List Loc) (ls : Array Slot), Mm G μ H → va_S (Ah G) s.heap H locs → lv_has ls 6 [(0, .ref o), (1, .int x1), (3, .int x3)] → w_X11_minutesUntilDelivered_l46 G o Q  n x1 x3 μ → W p l e { frames := 4, cells := 0, slots := 0, locals := 94 } s m args below meth c H locs 0 0 (MQ below (mQ G (pI Q)) args s 0 0 (Ah G)) (F0 m 46 ls []) := by
    intro  n
    induction n with
    | zero =>
      intro x1 x3 μ H locs ls hM hS hl h
      exact False.elim h
    | succ n ih =>
      intro x1 x3 μ H locs ls hM hS hl h
      have h : w_X11_minutesUntilDelivered_b46 G o Q  (w_X11_minutesUntilDelivered_l46 G o Q  n) x1 x3 μ := h
      unfold w_X11_minutesUntilDelivered_b46 at h
      refine lv_iload_n S.1 S.2.1 dX11_minutesUntilDelivered_46 rfl (lv_at hl 2 rfl) ?_
      refine lv_sipush (v := (nI 258)) S.1 S.2.1 dX11_minutesUntilDelivered_47 (by decide) ?_
      refine lv_icmp_ge (tgt := 71) S.1 S.2.1 dX11_minutesUntilDelivered_50 (by decide) (fun c11 => ?_) (fun c11 => ?_)
      · have h := h.1 c11
        refine lv_iconst (v := (nI 0)) S.1 S.2.1 dX11_minutesUntilDelivered_71 (by decide) ?_
        refine lv_istore_n (lv' := [(3, .int (nI 0)), (0, .ref o), (1, .int x1)]) S.1 S.2.1 dX11_minutesUntilDelivered_72 rfl hl (by decide) rfl (fun ls hl => ?_)
        refine lv_iconst (v := (nI 1)) S.1 S.2.1 dX11_minutesUntilDelivered_73 (by decide) ?_
        refine lv_istore (lv' := [(4, .int (nI 1)), (3, .int (nI 0)), (0, .ref o), (1, .int x1)]) S.1 S.2.1 dX11_minutesUntilDelivered_74 hl (by decide) rfl (fun ls hl => ?_)
        obtain ⟨n9, h⟩ := h
        exact hB76  n9 x1 (nI 0) (nI 1) μ H locs ls hM hS (lv_sub hl [2, 3, 1, 0] rfl) h
      · have h := h.2 c11
        refine lv_aload_n S.1 S.2.1 dX11_minutesUntilDelivered_53 rfl (lv_at hl 0 rfl) ?_
        obtain ⟨k37, h⟩ := h
        refine mz_getr S hG hM cf_10 fd_325 tw_1487 dX11_minutesUntilDelivered_54 k37 ?_
        refine lv_iload_n S.1 S.2.1 dX11_minutesUntilDelivered_57 rfl (lv_at hl 2 rfl) ?_
        refine lv_aload_n S.1 S.2.1 dX11_minutesUntilDelivered_58 rfl (lv_at hl 0 rfl) ?_
        refine mz_getr S hG hM cf_10 fd_321 tw_1483 dX11_minutesUntilDelivered_59 k37 ?_
        refine lv_iload_n S.1 S.2.1 dX11_minutesUntilDelivered_62 rfl (lv_at hl 2 rfl) ?_
        obtain ⟨a38, e39, h⟩ := h
        refine mz_o1 e39 ?_
        obtain ⟨k40, h⟩ := h
        obtain ⟨b41, h⟩ := h
        refine mz_iald S hG hM dX11_minutesUntilDelivered_63 k40 b41 ?_
        obtain ⟨a42, e43, h⟩ := h
        refine mz_o2 e43 ?_
        obtain ⟨k44, h⟩ := h
        obtain ⟨b45, h⟩ := h
        refine mz_iast S hG hM hS dX11_minutesUntilDelivered_64 k44 b45 (fun H locs hM hS hz9 => ?_)
        refine lv_iinc (v := (x3 + nI 1)) (lv' := [(3, .int (x3 + nI 1)), (0, .ref o), (1, .int x1)]) S.1 S.2.1 dX11_minutesUntilDelivered_65 hl (k := 2) rfl rfl (by decide) rfl (fun ls hl => ?_)
        refine lv_goto (tgt := 46) S.1 S.2.1 dX11_minutesUntilDelivered_68 (by decide) ?_
        exact ih x1 (x3 + nI 1) (sA μ a42 x3.toNatClampNeg (mA μ a38 x3.toNatClampNeg)) H locs ls hM hS (lv_sub hl [1, 2, 0] rfl) h
  have hB32 : ∀ (x1 : Int32) (s0 : Option Nat) (s1 : Int32) (μ : mmT) (H : Heap) (locs : List Loc) (ls : Array Slot), Mm G μ H → va_S (Ah G) s.heap H locs → lv_has ls 6 [(0, .ref o), (1, .int x1)] → w_X11_minutesUntilDelivered_b32 G o Q  x1 s0 s1 μ → W p l e { frames := 4, cells := 0, slots := 0, locals := 94 } s m args below meth c H locs 0 0 (MQ below (mQ G (pI Q)) args s 0 0 (Ah G)) (F0 m 32 ls [.int s1, va_rf s0]) := by
    intro  x1 s0 s1 μ H locs ls hM hS hl h
    unfold w_X11_minutesUntilDelivered_b32 at h
    obtain ⟨a6, e7, h⟩ := h
    refine mz_o1 e7 ?_
    obtain ⟨k8, h⟩ := h
    refine mz_puti S hG hM hS cf_10 fd_320 tw_1482 dX11_minutesUntilDelivered_32 k8 rfl rfl (fun H locs hM hS hz9 => ?_)
    refine lv_aload_n S.1 S.2.1 dX11_minutesUntilDelivered_35 rfl (lv_at hl 0 rfl) ?_
    obtain ⟨k9, h⟩ := h
    refine mz_geti S hG hM cf_10 fd_320 tw_1482 dX11_minutesUntilDelivered_36 k9 ?_
    refine lv_if_le (tgt := 44) S.1 S.2.1 dX11_minutesUntilDelivered_39 (by decide) (fun c10 => ?_) (fun c10 => ?_)
    · have h := h.1 c10
      refine lv_iconst (v := (nI 0)) S.1 S.2.1 dX11_minutesUntilDelivered_44 (by decide) ?_
      refine lv_istore_n (lv' := [(3, .int (nI 0)), (0, .ref o), (1, .int x1)]) S.1 S.2.1 dX11_minutesUntilDelivered_45 rfl hl (by decide) rfl (fun ls hl => ?_)
      obtain ⟨n9, h⟩ := h
      exact hB46  n9 x1 (nI 0) (sI μ 320 a6 s1) H locs ls hM hS (lv_sub hl [1, 2, 0] rfl) h
    · have h := h.2 c10
      refine lv_iconst (v := (nI 0)) S.1 S.2.1 dX11_minutesUntilDelivered_42 (by decide) ?_
      exact mz_iret S hr hlk hM hS rfl (Nat.le_of_ble_eq_true rfl) (Nat.le_of_ble_eq_true rfl) dX11_minutesUntilDelivered_43 ⟨_, rfl, h⟩
  intro H locs ls hM hS hl
  have hl : lv_has ls 6 [(0, .ref o), (1, .int x1)] := hl
  unfold w_X11_minutesUntilDelivered at h
  refine lv_aload_n S.1 S.2.1 dX11_minutesUntilDelivered_0 rfl (lv_at hl 0 rfl) ?_
  refine lv_iload_n S.1 S.2.1 dX11_minutesUntilDelivered_1 rfl (lv_at hl 1 rfl) ?_
  obtain ⟨k1, h⟩ := h
  refine mz_V S hG hM hS cf_10 k1 (As := [.int x1]) (rest := []) (c_X11_placeOf h) yf_X11_placeOf tw_1618 tw_1620 ts_35 ⟨Nat.le_of_ble_eq_true rfl, Nat.le_of_ble_eq_true rfl⟩ ⟨(Nat.le_of_ble_eq_true rfl), (Nat.le_of_ble_eq_true rfl)⟩ rfl hl.1 rfl (Nat.le_of_ble_eq_true rfl) dX11_minutesUntilDelivered_2 (fun v9 μ9 H locs hp hM hS => ?_)
  obtain ⟨u2, rfl, e9, h⟩ := hp
  rw [e9] at hM
  refine W.cs (cells' := 0) (slots' := 0) rfl rfl ?_
  refine lv_istore_n (lv' := [(2, .int u2), (0, .ref o), (1, .int x1)]) S.1 S.2.1 dX11_minutesUntilDelivered_5 rfl hl (by decide) rfl (fun ls hl => ?_)
  refine lv_aload_n S.1 S.2.1 dX11_minutesUntilDelivered_6 rfl (lv_at hl 1 rfl) ?_
  refine lv_iload_n S.1 S.2.1 dX11_minutesUntilDelivered_7 rfl (lv_at hl 0 rfl) ?_
  refine lv_iconst (v := (-1)) S.1 S.2.1 dX11_minutesUntilDelivered_8 (by decide) ?_
  refine lv_icmp_ne (tgt := 16) S.1 S.2.1 dX11_minutesUntilDelivered_9 (by decide) (fun c3 => ?_) (fun c3 => ?_)
  · have h := h.1 c3
    refine lv_aload_n S.1 S.2.1 dX11_minutesUntilDelivered_16 rfl (lv_at hl 1 rfl) ?_
    refine lv_iload_n S.1 S.2.1 dX11_minutesUntilDelivered_17 rfl (lv_at hl 0 rfl) ?_
    refine lv_iconst (v := (nI 4)) S.1 S.2.1 dX11_minutesUntilDelivered_18 (by decide) ?_
    refine mz_V S hG hM hS cf_10 k1 (As := [.int u2, .int (nI 4)]) (rest := [.ref o]) (c_X11_of h) yf_X11_of tw_1622 tw_1624 ts_36 ⟨Nat.le_of_ble_eq_true rfl, Nat.le_of_ble_eq_true rfl⟩ ⟨(Nat.le_of_ble_eq_true rfl), (Nat.le_of_ble_eq_true rfl)⟩ rfl hl.1 rfl (Nat.le_of_ble_eq_true rfl) dX11_minutesUntilDelivered_19 (fun v9 μ9 H locs hp hM hS => ?_)
    obtain ⟨u4, rfl, e9, h⟩ := hp
    rw [e9] at hM
    refine W.cs (cells' := 0) (slots' := 0) rfl rfl ?_
    refine lv_bipush (v := (nI 100)) S.1 S.2.1 dX11_minutesUntilDelivered_22 (by decide) ?_
    refine lv_icmp_ne (tgt := 31) S.1 S.2.1 dX11_minutesUntilDelivered_24 (by decide) (fun c5 => ?_) (fun c5 => ?_)
    · have h := h.1 c5
      refine lv_iconst (v := (nI 0)) S.1 S.2.1 dX11_minutesUntilDelivered_31 (by decide) ?_
      exact hB32  x1 (some o) (nI 0) μ H locs ls hM hS (lv_sub hl [1, 2] rfl) h
    · have h := h.2 c5
      refine lv_iconst (v := (nI 2)) S.1 S.2.1 dX11_minutesUntilDelivered_27 (by decide) ?_
      refine lv_goto (tgt := 32) S.1 S.2.1 dX11_minutesUntilDelivered_28 (by decide) ?_
      exact hB32  x1 (some o) (nI 2) μ H locs ls hM hS (lv_sub hl [1, 2] rfl) h
  · have h := h.2 c3
    refine lv_iconst (v := (nI 1)) S.1 S.2.1 dX11_minutesUntilDelivered_12 (by decide) ?_
    refine lv_goto (tgt := 32) S.1 S.2.1 dX11_minutesUntilDelivered_13 (by decide) ?_
    exact hB32  x1 (some o) (nI 1) μ H locs ls hM hS (lv_sub hl [1, 2] rfl) h
set_option maxRecDepth 100000 in
set_option maxHeartbeats 4000000 in
theorem c_X11_total {l : Launch} {G : mgT} {μ : mmT} {o : Nat} {x1 : Int32} {Q : Int32 → mmT → Prop} (h : w_X11_total G μ o x1 Q) : MC G l yX11_total cX11_total 2 (some .int) { frames := 0, cells := 0, slots := 0, locals := 0 } [.ref o, .int x1] μ (pI Q) := by
  refine mz_MC (by decide +kernel) (Nat.le_of_ble_eq_true rfl) (fun p e s m args below meth c S hG hr hlk hnm => ?_)
  intro H locs ls hM hS hl
  have hl : lv_has ls 2 [(0, .ref o), (1, .int x1)] := hl
  unfold w_X11_total at h
  refine lv_aload_n S.1 S.2.1 dX11_total_0 rfl (lv_at hl 0 rfl) ?_
  refine lv_iconst (v := (nI 0)) S.1 S.2.1 dX11_total_1 (by decide) ?_
  obtain ⟨k1, h⟩ := h
  refine mz_puti S hG hM hS cf_10 fd_320 tw_1482 dX11_total_2 k1 rfl rfl (fun H locs hM hS hz9 => ?_)
  refine lv_aload_n S.1 S.2.1 dX11_total_5 rfl (lv_at hl 0 rfl) ?_
  refine mz_getr S hG hM cf_10 fd_321 tw_1483 dX11_total_6 k1 ?_
  refine lv_iload_n S.1 S.2.1 dX11_total_9 rfl (lv_at hl 1 rfl) ?_
  obtain ⟨a2, e3, h⟩ := h
  refine mz_o1 e3 ?_
  obtain ⟨k4, h⟩ := h
  obtain ⟨b5, h⟩ := h
  refine mz_iald S hG hM dX11_total_10 k4 b5 ?_
  exact mz_iret S hr hlk hM hS rfl (Nat.le_of_ble_eq_true rfl) (Nat.le_of_ble_eq_true rfl) dX11_total_11 ⟨_, rfl, h⟩
set_option maxRecDepth 100000 in
set_option maxHeartbeats 4000000 in
theorem c_X11_time {l : Launch} {G : mgT} {μ : mmT} {o : Nat} {Q : Int32 → mmT → Prop} (h : w_X11_time G μ o Q) : MC G l yX11_time cX11_time 1 (some .int) { frames := 1, cells := 0, slots := 0, locals := 21 } [.ref o] μ (pI Q) := by
  refine mz_MC (by decide +kernel) (Nat.le_of_ble_eq_true rfl) (fun p e s m args below meth c S hG hr hlk hnm => ?_)
  intro H locs ls hM hS hl
  have hl : lv_has ls 1 [(0, .ref o)] := hl
  unfold w_X11_time at h
  refine lv_aload_n S.1 S.2.1 dX11_time_0 rfl (lv_at hl 0 rfl) ?_
  refine lv_iconst (v := (nI 4)) S.1 S.2.1 dX11_time_1 (by decide) ?_
  obtain ⟨k1, h⟩ := h
  refine mz_V S hG hM hS cf_10 k1 (As := [.int (nI 4)]) (rest := []) (c_X11_total h) yf_X11_total tw_1803 tw_1805 ts_52 ⟨Nat.le_of_ble_eq_true rfl, Nat.le_of_ble_eq_true rfl⟩ ⟨(Nat.le_of_ble_eq_true rfl), (Nat.le_of_ble_eq_true rfl)⟩ rfl hl.1 rfl (Nat.le_of_ble_eq_true rfl) dX11_time_2 (fun v9 μ3 H locs hp hM hS => ?_)
  obtain ⟨u2, rfl, h⟩ := hp
  refine W.cs (cells' := 0) (slots' := 0) rfl rfl ?_
  exact mz_iret S hr hlk hM hS rfl (Nat.le_of_ble_eq_true rfl) (Nat.le_of_ble_eq_true rfl) dX11_time_5 ⟨_, rfl, h⟩
set_option maxRecDepth 100000 in
set_option maxHeartbeats 4000000 in
theorem c_X11_wind {l : Launch} {G : mgT} {μ : mmT} {o : Nat} {Q : Int32 → mmT → Prop} (h : w_X11_wind G μ o Q) : MC G l yX11_wind cX11_wind 1 (some .int) { frames := 1, cells := 0, slots := 0, locals := 21 } [.ref o] μ (pI Q) := by
  refine mz_MC (by decide +kernel) (Nat.le_of_ble_eq_true rfl) (fun p e s m args below meth c S hG hr hlk hnm => ?_)
  intro H locs ls hM hS hl
  have hl : lv_has ls 1 [(0, .ref o)] := hl
  unfold w_X11_wind at h
  refine lv_aload_n S.1 S.2.1 dX11_wind_0 rfl (lv_at hl 0 rfl) ?_
  refine lv_iconst (v := (nI 5)) S.1 S.2.1 dX11_wind_1 (by decide) ?_
  obtain ⟨k1, h⟩ := h
  refine mz_V S hG hM hS cf_10 k1 (As := [.int (nI 5)]) (rest := []) (c_X11_total h) yf_X11_total tw_1803 tw_1805 ts_52 ⟨Nat.le_of_ble_eq_true rfl, Nat.le_of_ble_eq_true rfl⟩ ⟨(Nat.le_of_ble_eq_true rfl), (Nat.le_of_ble_eq_true rfl)⟩ rfl hl.1 rfl (Nat.le_of_ble_eq_true rfl) dX11_wind_2 (fun v9 μ3 H locs hp hM hS => ?_)
  obtain ⟨u2, rfl, h⟩ := hp
  refine W.cs (cells' := 0) (slots' := 0) rfl rfl ?_
  exact mz_iret S hr hlk hM hS rfl (Nat.le_of_ble_eq_true rfl) (Nat.le_of_ble_eq_true rfl) dX11_wind_5 ⟨_, rfl, h⟩
set_option maxRecDepth 100000 in
set_option maxHeartbeats 4000000 in
theorem c_X11_publishedTotal {l : Launch} {G : mgT} {μ : mmT} {o : Nat} {Q : Int32 → mmT → Prop} (h : w_X11_publishedTotal G μ o Q) : MC G l yX11_publishedTotal cX11_publishedTotal 1 (some .int) { frames := 1, cells := 0, slots := 0, locals := 21 } [.ref o] μ (pI Q) := by
  refine mz_MC (by decide +kernel) (Nat.le_of_ble_eq_true rfl) (fun p e s m args below meth c S hG hr hlk hnm => ?_)
  intro H locs ls hM hS hl
  have hl : lv_has ls 1 [(0, .ref o)] := hl
  unfold w_X11_publishedTotal at h
  refine lv_aload_n S.1 S.2.1 dX11_publishedTotal_0 rfl (lv_at hl 0 rfl) ?_
  refine lv_iconst (v := (nI 3)) S.1 S.2.1 dX11_publishedTotal_1 (by decide) ?_
  obtain ⟨k1, h⟩ := h
  refine mz_V S hG hM hS cf_10 k1 (As := [.int (nI 3)]) (rest := []) (c_X11_total h) yf_X11_total tw_1803 tw_1805 ts_52 ⟨Nat.le_of_ble_eq_true rfl, Nat.le_of_ble_eq_true rfl⟩ ⟨(Nat.le_of_ble_eq_true rfl), (Nat.le_of_ble_eq_true rfl)⟩ rfl hl.1 rfl (Nat.le_of_ble_eq_true rfl) dX11_publishedTotal_2 (fun v9 μ3 H locs hp hM hS => ?_)
  obtain ⟨u2, rfl, h⟩ := hp
  refine W.cs (cells' := 0) (slots' := 0) rfl rfl ?_
  exact mz_iret S hr hlk hM hS rfl (Nat.le_of_ble_eq_true rfl) (Nat.le_of_ble_eq_true rfl) dX11_publishedTotal_5 ⟨_, rfl, h⟩
set_option maxRecDepth 100000 in
set_option maxHeartbeats 4000000 in
theorem c_X11_deliveredTotal {l : Launch} {G : mgT} {μ : mmT} {o : Nat} {Q : Int32 → mmT → Prop} (h : w_X11_deliveredTotal G μ o Q) : MC G l yX11_deliveredTotal cX11_deliveredTotal 1 (some .int) { frames := 1, cells := 0, slots := 0, locals := 21 } [.ref o] μ (pI Q) := by
  refine mz_MC (by decide +kernel) (Nat.le_of_ble_eq_true rfl) (fun p e s m args below meth c S hG hr hlk hnm => ?_)
  intro H locs ls hM hS hl
  have hl : lv_has ls 1 [(0, .ref o)] := hl
  unfold w_X11_deliveredTotal at h
  refine lv_aload_n S.1 S.2.1 dX11_deliveredTotal_0 rfl (lv_at hl 0 rfl) ?_
  refine lv_bipush (v := (nI 6)) S.1 S.2.1 dX11_deliveredTotal_1 (by decide) ?_
  obtain ⟨k1, h⟩ := h
  refine mz_V S hG hM hS cf_10 k1 (As := [.int (nI 6)]) (rest := []) (c_X11_total h) yf_X11_total tw_1803 tw_1805 ts_52 ⟨Nat.le_of_ble_eq_true rfl, Nat.le_of_ble_eq_true rfl⟩ ⟨(Nat.le_of_ble_eq_true rfl), (Nat.le_of_ble_eq_true rfl)⟩ rfl hl.1 rfl (Nat.le_of_ble_eq_true rfl) dX11_deliveredTotal_3 (fun v9 μ3 H locs hp hM hS => ?_)
  obtain ⟨u2, rfl, h⟩ := hp
  refine W.cs (cells' := 0) (slots' := 0) rfl rfl ?_
  exact mz_iret S hr hlk hM hS rfl (Nat.le_of_ble_eq_true rfl) (Nat.le_of_ble_eq_true rfl) dX11_deliveredTotal_6 ⟨_, rfl, h⟩
set_option maxRecDepth 100000 in
set_option maxHeartbeats 4000000 in
theorem c_X11_readTotal {l : Launch} {G : mgT} {μ : mmT} {o : Nat} {Q : Int32 → mmT → Prop} (h : w_X11_readTotal G μ o Q) : MC G l yX11_readTotal cX11_readTotal 1 (some .int) { frames := 1, cells := 0, slots := 0, locals := 21 } [.ref o] μ (pI Q) := by
  refine mz_MC (by decide +kernel) (Nat.le_of_ble_eq_true rfl) (fun p e s m args below meth c S hG hr hlk hnm => ?_)
  intro H locs ls hM hS hl
  have hl : lv_has ls 1 [(0, .ref o)] := hl
  unfold w_X11_readTotal at h
  refine lv_aload_n S.1 S.2.1 dX11_readTotal_0 rfl (lv_at hl 0 rfl) ?_
  refine lv_bipush (v := (nI 7)) S.1 S.2.1 dX11_readTotal_1 (by decide) ?_
  obtain ⟨k1, h⟩ := h
  refine mz_V S hG hM hS cf_10 k1 (As := [.int (nI 7)]) (rest := []) (c_X11_total h) yf_X11_total tw_1803 tw_1805 ts_52 ⟨Nat.le_of_ble_eq_true rfl, Nat.le_of_ble_eq_true rfl⟩ ⟨(Nat.le_of_ble_eq_true rfl), (Nat.le_of_ble_eq_true rfl)⟩ rfl hl.1 rfl (Nat.le_of_ble_eq_true rfl) dX11_readTotal_3 (fun v9 μ3 H locs hp hM hS => ?_)
  obtain ⟨u2, rfl, h⟩ := hp
  refine W.cs (cells' := 0) (slots' := 0) rfl rfl ?_
  exact mz_iret S hr hlk hM hS rfl (Nat.le_of_ble_eq_true rfl) (Nat.le_of_ble_eq_true rfl) dX11_readTotal_6 ⟨_, rfl, h⟩
set_option maxRecDepth 100000 in
set_option maxHeartbeats 4000000 in
theorem c_X11_duplicateTotal {l : Launch} {G : mgT} {μ : mmT} {o : Nat} {Q : Int32 → mmT → Prop} (h : w_X11_duplicateTotal G μ o Q) : MC G l yX11_duplicateTotal cX11_duplicateTotal 1 (some .int) { frames := 1, cells := 0, slots := 0, locals := 21 } [.ref o] μ (pI Q) := by
  refine mz_MC (by decide +kernel) (Nat.le_of_ble_eq_true rfl) (fun p e s m args below meth c S hG hr hlk hnm => ?_)
  intro H locs ls hM hS hl
  have hl : lv_has ls 1 [(0, .ref o)] := hl
  unfold w_X11_duplicateTotal at h
  refine lv_aload_n S.1 S.2.1 dX11_duplicateTotal_0 rfl (lv_at hl 0 rfl) ?_
  refine lv_bipush (v := (nI 8)) S.1 S.2.1 dX11_duplicateTotal_1 (by decide) ?_
  obtain ⟨k1, h⟩ := h
  refine mz_V S hG hM hS cf_10 k1 (As := [.int (nI 8)]) (rest := []) (c_X11_total h) yf_X11_total tw_1803 tw_1805 ts_52 ⟨Nat.le_of_ble_eq_true rfl, Nat.le_of_ble_eq_true rfl⟩ ⟨(Nat.le_of_ble_eq_true rfl), (Nat.le_of_ble_eq_true rfl)⟩ rfl hl.1 rfl (Nat.le_of_ble_eq_true rfl) dX11_duplicateTotal_3 (fun v9 μ3 H locs hp hM hS => ?_)
  obtain ⟨u2, rfl, h⟩ := hp
  refine W.cs (cells' := 0) (slots' := 0) rfl rfl ?_
  exact mz_iret S hr hlk hM hS rfl (Nat.le_of_ble_eq_true rfl) (Nat.le_of_ble_eq_true rfl) dX11_duplicateTotal_6 ⟨_, rfl, h⟩
set_option maxRecDepth 100000 in
set_option maxHeartbeats 4000000 in
theorem c_X11_failedTotal {l : Launch} {G : mgT} {μ : mmT} {o : Nat} {Q : Int32 → mmT → Prop} (h : w_X11_failedTotal G μ o Q) : MC G l yX11_failedTotal cX11_failedTotal 1 (some .int) { frames := 1, cells := 0, slots := 0, locals := 21 } [.ref o] μ (pI Q) := by
  refine mz_MC (by decide +kernel) (Nat.le_of_ble_eq_true rfl) (fun p e s m args below meth c S hG hr hlk hnm => ?_)
  intro H locs ls hM hS hl
  have hl : lv_has ls 1 [(0, .ref o)] := hl
  unfold w_X11_failedTotal at h
  refine lv_aload_n S.1 S.2.1 dX11_failedTotal_0 rfl (lv_at hl 0 rfl) ?_
  refine lv_bipush (v := (nI 9)) S.1 S.2.1 dX11_failedTotal_1 (by decide) ?_
  obtain ⟨k1, h⟩ := h
  refine mz_V S hG hM hS cf_10 k1 (As := [.int (nI 9)]) (rest := []) (c_X11_total h) yf_X11_total tw_1803 tw_1805 ts_52 ⟨Nat.le_of_ble_eq_true rfl, Nat.le_of_ble_eq_true rfl⟩ ⟨(Nat.le_of_ble_eq_true rfl), (Nat.le_of_ble_eq_true rfl)⟩ rfl hl.1 rfl (Nat.le_of_ble_eq_true rfl) dX11_failedTotal_3 (fun v9 μ3 H locs hp hM hS => ?_)
  obtain ⟨u2, rfl, h⟩ := hp
  refine W.cs (cells' := 0) (slots' := 0) rfl rfl ?_
  exact mz_iret S hr hlk hM hS rfl (Nat.le_of_ble_eq_true rfl) (Nat.le_of_ble_eq_true rfl) dX11_failedTotal_6 ⟨_, rfl, h⟩
set_option maxRecDepth 100000 in
set_option maxHeartbeats 4000000 in
theorem c_X11_arrivalTotal {l : Launch} {G : mgT} {μ : mmT} {o : Nat} {Q : Int32 → mmT → Prop} (h : w_X11_arrivalTotal G μ o Q) : MC G l yX11_arrivalTotal cX11_arrivalTotal 1 (some .int) { frames := 1, cells := 0, slots := 0, locals := 21 } [.ref o] μ (pI Q) := by
  refine mz_MC (by decide +kernel) (Nat.le_of_ble_eq_true rfl) (fun p e s m args below meth c S hG hr hlk hnm => ?_)
  intro H locs ls hM hS hl
  have hl : lv_has ls 1 [(0, .ref o)] := hl
  unfold w_X11_arrivalTotal at h
  refine lv_aload_n S.1 S.2.1 dX11_arrivalTotal_0 rfl (lv_at hl 0 rfl) ?_
  refine lv_bipush (v := (nI 10)) S.1 S.2.1 dX11_arrivalTotal_1 (by decide) ?_
  obtain ⟨k1, h⟩ := h
  refine mz_V S hG hM hS cf_10 k1 (As := [.int (nI 10)]) (rest := []) (c_X11_total h) yf_X11_total tw_1803 tw_1805 ts_52 ⟨Nat.le_of_ble_eq_true rfl, Nat.le_of_ble_eq_true rfl⟩ ⟨(Nat.le_of_ble_eq_true rfl), (Nat.le_of_ble_eq_true rfl)⟩ rfl hl.1 rfl (Nat.le_of_ble_eq_true rfl) dX11_arrivalTotal_3 (fun v9 μ3 H locs hp hM hS => ?_)
  obtain ⟨u2, rfl, h⟩ := hp
  refine W.cs (cells' := 0) (slots' := 0) rfl rfl ?_
  exact mz_iret S hr hlk hM hS rfl (Nat.le_of_ble_eq_true rfl) (Nat.le_of_ble_eq_true rfl) dX11_arrivalTotal_6 ⟨_, rfl, h⟩
set_option maxRecDepth 100000 in
set_option maxHeartbeats 4000000 in
theorem c_X11_messageCountByTotals {l : Launch} {G : mgT} {μ : mmT} {o : Nat} {Q : Int32 → mmT → Prop} (h : w_X11_messageCountByTotals G μ o Q) : MC G l yX11_messageCountByTotals cX11_messageCountByTotals 1 (some .int) { frames := 0, cells := 0, slots := 0, locals := 0 } [.ref o] μ (pI Q) := by
  refine mz_MC (by decide +kernel) (Nat.le_of_ble_eq_true rfl) (fun p e s m args below meth c S hG hr hlk hnm => ?_)
  intro H locs ls hM hS hl
  have hl : lv_has ls 1 [(0, .ref o)] := hl
  unfold w_X11_messageCountByTotals at h
  refine lv_aload_n S.1 S.2.1 dX11_messageCountByTotals_0 rfl (lv_at hl 0 rfl) ?_
  refine lv_iconst (v := (nI 0)) S.1 S.2.1 dX11_messageCountByTotals_1 (by decide) ?_
  obtain ⟨k1, h⟩ := h
  refine mz_puti S hG hM hS cf_10 fd_320 tw_1482 dX11_messageCountByTotals_2 k1 rfl rfl (fun H locs hM hS hz9 => ?_)
  refine lv_aload_n S.1 S.2.1 dX11_messageCountByTotals_5 rfl (lv_at hl 0 rfl) ?_
  refine mz_getr S hG hM cf_10 fd_321 tw_1483 dX11_messageCountByTotals_6 k1 ?_
  refine lv_iconst (v := (nI 3)) S.1 S.2.1 dX11_messageCountByTotals_9 (by decide) ?_
  obtain ⟨a2, e3, h⟩ := h
  refine mz_o1 e3 ?_
  obtain ⟨k4, h⟩ := h
  obtain ⟨b5, h⟩ := h
  refine mz_iald S hG hM dX11_messageCountByTotals_10 k4 b5 ?_
  refine lv_aload_n S.1 S.2.1 dX11_messageCountByTotals_11 rfl (lv_at hl 0 rfl) ?_
  refine mz_getr S hG hM cf_10 fd_321 tw_1483 dX11_messageCountByTotals_12 k1 ?_
  refine lv_bipush (v := (nI 7)) S.1 S.2.1 dX11_messageCountByTotals_15 (by decide) ?_
  refine mz_o1 e3 ?_
  obtain ⟨b6, h⟩ := h
  refine mz_iald S hG hM dX11_messageCountByTotals_17 k4 b6 ?_
  refine lv_isub S.1 S.2.1 dX11_messageCountByTotals_18 ?_
  refine lv_aload_n S.1 S.2.1 dX11_messageCountByTotals_19 rfl (lv_at hl 0 rfl) ?_
  refine mz_getr S hG hM cf_10 fd_321 tw_1483 dX11_messageCountByTotals_20 k1 ?_
  refine lv_bipush (v := (nI 8)) S.1 S.2.1 dX11_messageCountByTotals_23 (by decide) ?_
  refine mz_o1 e3 ?_
  obtain ⟨b7, h⟩ := h
  refine mz_iald S hG hM dX11_messageCountByTotals_25 k4 b7 ?_
  refine lv_isub S.1 S.2.1 dX11_messageCountByTotals_26 ?_
  refine lv_aload_n S.1 S.2.1 dX11_messageCountByTotals_27 rfl (lv_at hl 0 rfl) ?_
  refine mz_getr S hG hM cf_10 fd_321 tw_1483 dX11_messageCountByTotals_28 k1 ?_
  refine lv_bipush (v := (nI 9)) S.1 S.2.1 dX11_messageCountByTotals_31 (by decide) ?_
  refine mz_o1 e3 ?_
  obtain ⟨b8, h⟩ := h
  refine mz_iald S hG hM dX11_messageCountByTotals_33 k4 b8 ?_
  refine lv_isub S.1 S.2.1 dX11_messageCountByTotals_34 ?_
  refine lv_aload_n S.1 S.2.1 dX11_messageCountByTotals_35 rfl (lv_at hl 0 rfl) ?_
  refine mz_getr S hG hM cf_10 fd_321 tw_1483 dX11_messageCountByTotals_36 k1 ?_
  refine lv_bipush (v := (nI 11)) S.1 S.2.1 dX11_messageCountByTotals_39 (by decide) ?_
  refine mz_o1 e3 ?_
  obtain ⟨b9, h⟩ := h
  refine mz_iald S hG hM dX11_messageCountByTotals_41 k4 b9 ?_
  refine lv_isub S.1 S.2.1 dX11_messageCountByTotals_42 ?_
  exact mz_iret S hr hlk hM hS rfl (Nat.le_of_ble_eq_true rfl) (Nat.le_of_ble_eq_true rfl) dX11_messageCountByTotals_43 ⟨_, rfl, h⟩
set_option maxRecDepth 100000 in
set_option maxHeartbeats 4000000 in
theorem c_X11_mean {l : Launch} {G : mgT} {μ : mmT} {o : Nat} {Q : UInt64 → Prop} (h : w_X11_mean G μ o Q) : MC G l yX11_mean cX11_mean 3 (some .double) { frames := 1, cells := 0, slots := 0, locals := 22 } [.ref o] μ (pD (fun r μ' => μ' = μ ∧ Q r)) := by
  refine mz_MC (by decide +kernel) (Nat.le_of_ble_eq_true rfl) (fun p e s m args below meth c S hG hr hlk hnm => ?_)
  have hB4 : ∀ (n : Nat) (x1 : Int32) (x2 : Int32) (H : Heap) (locs : List Loc) (ls : Array Slot), Mm G μ H → va_S (Ah G) s.heap H locs → lv_has ls 3 [(0, .ref o), (1, .int x1), (2, .int x2)] → w_X11_mean_l4 G μ o Q  n x1 x2 → W p l e { frames := 1, cells := 0, slots := 0, locals := 22 } s m args below meth c H locs 0 0 (MQ below (mQ G (pD (fun r μ' => μ' = μ ∧ Q r))) args s 0 0 (Ah G)) (F0 m 4 ls []) := by
    intro  n
    induction n with
    | zero =>
      intro x1 x2 H locs ls hM hS hl h
      exact False.elim h
    | succ n ih =>
      intro x1 x2 H locs ls hM hS hl h
      have h : w_X11_mean_b4 G μ o Q  (w_X11_mean_l4 G μ o Q  n) x1 x2 := h
      unfold w_X11_mean_b4 at h
      refine lv_iload_n S.1 S.2.1 dX11_mean_4 rfl (lv_at hl 2 rfl) ?_
      refine lv_aload_n S.1 S.2.1 dX11_mean_5 rfl (lv_at hl 0 rfl) ?_
      obtain ⟨k1, h⟩ := h
      refine mz_getr S hG hM cf_10 fd_321 tw_1483 dX11_mean_6 k1 ?_
      refine lv_iconst (v := (nI 2)) S.1 S.2.1 dX11_mean_9 (by decide) ?_
      obtain ⟨a2, e3, h⟩ := h
      refine mz_o1 e3 ?_
      obtain ⟨k4, h⟩ := h
      obtain ⟨b5, h⟩ := h
      refine mz_iald S hG hM dX11_mean_10 k4 b5 ?_
      refine lv_icmp_ge (tgt := 29) S.1 S.2.1 dX11_mean_11 (by decide) (fun c6 => ?_) (fun c6 => ?_)
      · have h := h.1 c6
        refine lv_iload_n S.1 S.2.1 dX11_mean_29 rfl (lv_at hl 1 rfl) ?_
        refine lv_i2d S.1 S.2.1 dX11_mean_30 ?_
        refine lv_aload_n S.1 S.2.1 dX11_mean_31 rfl (lv_at hl 0 rfl) ?_
        refine mz_getr S hG hM cf_10 fd_321 tw_1483 dX11_mean_32 k1 ?_
        refine lv_iconst (v := (nI 2)) S.1 S.2.1 dX11_mean_35 (by decide) ?_
        refine mz_o1 e3 ?_
        obtain ⟨b7, h⟩ := h
        refine mz_iald S hG hM dX11_mean_36 k4 b7 ?_
        refine lv_i2d S.1 S.2.1 dX11_mean_37 ?_
        obtain ⟨g8, h⟩ := h
        refine lv_ddiv S.1 S.2.1 dX11_mean_38 g8 ?_
        exact mz_dret S hr hlk hM hS (Nat.le_of_ble_eq_true rfl) (Nat.le_of_ble_eq_true rfl) dX11_mean_39 ⟨_, rfl, rfl, h⟩
      · have h := h.2 c6
        refine lv_iload_n S.1 S.2.1 dX11_mean_14 rfl (lv_at hl 1 rfl) ?_
        refine lv_aload_n S.1 S.2.1 dX11_mean_15 rfl (lv_at hl 0 rfl) ?_
        refine lv_iload_n S.1 S.2.1 dX11_mean_16 rfl (lv_at hl 2 rfl) ?_
        refine lv_iconst (v := (nI 3)) S.1 S.2.1 dX11_mean_17 (by decide) ?_
        refine mz_V S hG hM hS cf_10 k1 (As := [.int x2, .int (nI 3)]) (rest := [.int x1]) (c_X11_of h) yf_X11_of tw_1622 tw_1624 ts_36 ⟨Nat.le_of_ble_eq_true rfl, Nat.le_of_ble_eq_true rfl⟩ ⟨(Nat.le_of_ble_eq_true rfl), (Nat.le_of_ble_eq_true rfl)⟩ rfl hl.1 rfl (Nat.le_of_ble_eq_true rfl) dX11_mean_18 (fun v9 μ9 H locs hp hM hS => ?_)
        obtain ⟨u9, rfl, e9, h⟩ := hp
        rw [e9] at hM
        refine W.cs (cells' := 0) (slots' := 0) rfl rfl ?_
        refine lv_iadd S.1 S.2.1 dX11_mean_21 ?_
        refine lv_istore_n (lv' := [(1, .int (x1 + u9)), (0, .ref o), (2, .int x2)]) S.1 S.2.1 dX11_mean_22 rfl hl (by decide) rfl (fun ls hl => ?_)
        refine lv_iinc (v := (x2 + nI 1)) (lv' := [(2, .int (x2 + nI 1)), (1, .int (x1 + u9)), (0, .ref o)]) S.1 S.2.1 dX11_mean_23 hl (k := 2) rfl rfl (by decide) rfl (fun ls hl => ?_)
        refine lv_goto (tgt := 4) S.1 S.2.1 dX11_mean_26 (by decide) ?_
        exact ih (x1 + u9) (x2 + nI 1) H locs ls hM hS (lv_sub hl [2, 1, 0] rfl) h
  intro H locs ls hM hS hl
  have hl : lv_has ls 3 [(0, .ref o)] := hl
  unfold w_X11_mean at h
  refine lv_iconst (v := (nI 0)) S.1 S.2.1 dX11_mean_0 (by decide) ?_
  refine lv_istore_n (lv' := [(1, .int (nI 0)), (0, .ref o)]) S.1 S.2.1 dX11_mean_1 rfl hl (by decide) rfl (fun ls hl => ?_)
  refine lv_iconst (v := (nI 0)) S.1 S.2.1 dX11_mean_2 (by decide) ?_
  refine lv_istore_n (lv' := [(2, .int (nI 0)), (1, .int (nI 0)), (0, .ref o)]) S.1 S.2.1 dX11_mean_3 rfl hl (by decide) rfl (fun ls hl => ?_)
  obtain ⟨n9, h⟩ := h
  exact hB4  n9 (nI 0) (nI 0) H locs ls hM hS (lv_sub hl [2, 1, 0] rfl) h
set_option maxRecDepth 100000 in
set_option maxHeartbeats 4000000 in
theorem c_X11_meanAttempts {l : Launch} {G : mgT} {μ : mmT} {o : Nat} {Q : UInt64 → mmT → Prop} (h : w_X11_meanAttempts G μ o Q) : MC G l yX11_meanAttempts cX11_meanAttempts 1 (some .double) { frames := 2, cells := 0, slots := 0, locals := 44 } [.ref o] μ (pD Q) := by
  refine mz_MC (by decide +kernel) (Nat.le_of_ble_eq_true rfl) (fun p e s m args below meth c S hG hr hlk hnm => ?_)
  have hB33 : ∀ (s0 : UInt64) (μ : mmT) (H : Heap) (locs : List Loc) (ls : Array Slot), Mm G μ H → va_S (Ah G) s.heap H locs → lv_has ls 1 [(0, .ref o)] → w_X11_meanAttempts_b33 G o Q  s0 μ → W p l e { frames := 2, cells := 0, slots := 0, locals := 44 } s m args below meth c H locs 0 0 (MQ below (mQ G (pD Q)) args s 0 0 (Ah G)) (F0 m 33 ls [.double s0]) := by
    intro  s0 μ H locs ls hM hS hl h
    unfold w_X11_meanAttempts_b33 at h
    exact mz_dret S hr hlk hM hS (Nat.le_of_ble_eq_true rfl) (Nat.le_of_ble_eq_true rfl) dX11_meanAttempts_33 ⟨_, rfl, h⟩
  have hB15 : ∀ (s0 : Option Nat) (s1 : Int32) (μ : mmT) (H : Heap) (locs : List Loc) (ls : Array Slot), Mm G μ H → va_S (Ah G) s.heap H locs → lv_has ls 1 [(0, .ref o)] → w_X11_meanAttempts_b15 G o Q  s0 s1 μ → W p l e { frames := 2, cells := 0, slots := 0, locals := 44 } s m args below meth c H locs 0 0 (MQ below (mQ G (pD Q)) args s 0 0 (Ah G)) (F0 m 15 ls [.int s1, va_rf s0]) := by
    intro  s0 s1 μ H locs ls hM hS hl h
    unfold w_X11_meanAttempts_b15 at h
    obtain ⟨a7, e8, h⟩ := h
    refine mz_o1 e8 ?_
    obtain ⟨k9, h⟩ := h
    refine mz_puti S hG hM hS cf_10 fd_320 tw_1482 dX11_meanAttempts_15 k9 rfl rfl (fun H locs hM hS hz9 => ?_)
    refine lv_aload_n S.1 S.2.1 dX11_meanAttempts_18 rfl (lv_at hl 0 rfl) ?_
    obtain ⟨k10, h⟩ := h
    refine mz_geti S hG hM cf_10 fd_320 tw_1482 dX11_meanAttempts_19 k10 ?_
    refine lv_if_le (tgt := 29) S.1 S.2.1 dX11_meanAttempts_22 (by decide) (fun c11 => ?_) (fun c11 => ?_)
    · have h := h.1 c11
      refine lv_aload_n S.1 S.2.1 dX11_meanAttempts_29 rfl (lv_at hl 0 rfl) ?_
      refine mz_V S hG hM hS cf_10 k10 (As := []) (rest := []) (c_X11_mean h) yf_X11_mean tw_1843 tw_1845 ts_53 ⟨Nat.le_of_ble_eq_true rfl, Nat.le_of_ble_eq_true rfl⟩ ⟨(Nat.le_of_ble_eq_true rfl), (Nat.le_of_ble_eq_true rfl)⟩ rfl hl.1 rfl (Nat.le_of_ble_eq_true rfl) dX11_meanAttempts_30 (fun v9 μ9 H locs hp hM hS => ?_)
      obtain ⟨u12, rfl, e9, h⟩ := hp
      rw [e9] at hM
      refine W.cs (cells' := 0) (slots' := 0) rfl rfl ?_
      exact hB33  u12 (sI μ 320 a7 s1) H locs ls hM hS (lv_sub hl [0] rfl) h
    · have h := h.2 c11
      refine lv_dconst0 S.1 S.2.1 dX11_meanAttempts_25 ?_
      refine lv_goto (tgt := 33) S.1 S.2.1 dX11_meanAttempts_26 (by decide) ?_
      exact hB33  FP.dconst0 (sI μ 320 a7 s1) H locs ls hM hS (lv_sub hl [0] rfl) h
  intro H locs ls hM hS hl
  have hl : lv_has ls 1 [(0, .ref o)] := hl
  unfold w_X11_meanAttempts at h
  refine lv_aload_n S.1 S.2.1 dX11_meanAttempts_0 rfl (lv_at hl 0 rfl) ?_
  refine lv_aload_n S.1 S.2.1 dX11_meanAttempts_1 rfl (lv_at hl 0 rfl) ?_
  obtain ⟨k1, h⟩ := h
  refine mz_getr S hG hM cf_10 fd_321 tw_1483 dX11_meanAttempts_2 k1 ?_
  refine lv_iconst (v := (nI 2)) S.1 S.2.1 dX11_meanAttempts_5 (by decide) ?_
  obtain ⟨a2, e3, h⟩ := h
  refine mz_o1 e3 ?_
  obtain ⟨k4, h⟩ := h
  obtain ⟨b5, h⟩ := h
  refine mz_iald S hG hM dX11_meanAttempts_6 k4 b5 ?_
  refine lv_if_ne (tgt := 14) S.1 S.2.1 dX11_meanAttempts_7 (by decide) (fun c6 => ?_) (fun c6 => ?_)
  · have h := h.1 c6
    refine lv_iconst (v := (nI 0)) S.1 S.2.1 dX11_meanAttempts_14 (by decide) ?_
    exact hB15  (some o) (nI 0) μ H locs ls hM hS (lv_sub hl [0] rfl) h
  · have h := h.2 c6
    refine lv_iconst (v := (nI 1)) S.1 S.2.1 dX11_meanAttempts_10 (by decide) ?_
    refine lv_goto (tgt := 15) S.1 S.2.1 dX11_meanAttempts_11 (by decide) ?_
    exact hB15  (some o) (nI 1) μ H locs ls hM hS (lv_sub hl [0] rfl) h
set_option maxRecDepth 100000 in
set_option maxHeartbeats 4000000 in
theorem c_Jxe99ae_isNaN_b9ae7 {l : Launch} {G : mgT} {μ : mmT} {x0 : UInt64} {Q : Int32 → Prop} (h : w_Jxe99ae_isNaN_b9ae7 G μ x0 Q) : MC G l yJxe99ae_isNaN_b9ae7 cJxe99ae_isNaN_b9ae7 2 (some .boolean) { frames := 0, cells := 0, slots := 0, locals := 0 } [.double x0] μ (pI (fun r μ' => μ' = μ ∧ Q r)) := by
  refine mz_MC (by decide +kernel) (Nat.le_of_ble_eq_true rfl) (fun p e s m args below meth c S hG hr hlk hnm => ?_)
  have hB11 : ∀ (s0 : Int32) (H : Heap) (locs : List Loc) (ls : Array Slot), Mm G μ H → va_S (Ah G) s.heap H locs → lv_has ls 2 [] → w_Jxe99ae_isNaN_b9ae7_b11 G μ Q  s0 → W p l e { frames := 0, cells := 0, slots := 0, locals := 0 } s m args below meth c H locs 0 0 (MQ below (mQ G (pI (fun r μ' => μ' = μ ∧ Q r))) args s 0 0 (Ah G)) (F0 m 11 ls [.int s0]) := by
    intro  s0 H locs ls hM hS hl h
    unfold w_Jxe99ae_isNaN_b9ae7_b11 at h
    obtain ⟨f2, h⟩ := h
    exact mz_iret S hr hlk hM hS (mz_nZ f2) (Nat.le_of_ble_eq_true rfl) (Nat.le_of_ble_eq_true rfl) dJxe99ae_isNaN_b9ae7_11 ⟨_, rfl, rfl, h⟩
  intro H locs ls hM hS hl
  have hl : lv_has ls 2 [(0, .double x0)] := hl
  unfold w_Jxe99ae_isNaN_b9ae7 at h
  refine lv_dload_n S.1 S.2.1 dJxe99ae_isNaN_b9ae7_0 rfl (lv_at hl 0 rfl) ?_
  refine lv_dload_n S.1 S.2.1 dJxe99ae_isNaN_b9ae7_1 rfl (lv_at hl 0 rfl) ?_
  refine lv_dcmp S.1 S.2.1 dJxe99ae_isNaN_b9ae7_2 ?_
  refine lv_if_eq (tgt := 10) S.1 S.2.1 dJxe99ae_isNaN_b9ae7_3 (by decide) (fun c1 => ?_) (fun c1 => ?_)
  · have h := h.1 c1
    refine lv_iconst (v := (nI 0)) S.1 S.2.1 dJxe99ae_isNaN_b9ae7_10 (by decide) ?_
    exact hB11  (nI 0) H locs ls hM hS (lv_sub hl [] rfl) h
  · have h := h.2 c1
    refine lv_iconst (v := (nI 1)) S.1 S.2.1 dJxe99ae_isNaN_b9ae7_6 (by decide) ?_
    refine lv_goto (tgt := 11) S.1 S.2.1 dJxe99ae_isNaN_b9ae7_7 (by decide) ?_
    exact hB11  (nI 1) H locs ls hM hS (lv_sub hl [] rfl) h
set_option maxRecDepth 100000 in
set_option maxHeartbeats 4000000 in
theorem c_Jxe99ae_doubleToLongBits_ccdee {l : Launch} {G : mgT} {μ : mmT} {x0 : UInt64} {Q : Int64 → Prop} (h : w_Jxe99ae_doubleToLongBits_ccdee G μ x0 Q) : MC G l yJxe99ae_doubleToLongBits_ccdee cJxe99ae_doubleToLongBits_ccdee 2 (some .long) { frames := 1, cells := 0, slots := 0, locals := 30 } [.double x0] μ (pL (fun r μ' => μ' = μ ∧ Q r)) := by
  refine mz_MC (by decide +kernel) (Nat.le_of_ble_eq_true rfl) (fun p e s m args below meth c S hG hr hlk hnm => ?_)
  intro H locs ls hM hS hl
  have hl : lv_has ls 2 [(0, .double x0)] := hl
  unfold w_Jxe99ae_doubleToLongBits_ccdee at h
  refine lv_dload_n S.1 S.2.1 dJxe99ae_doubleToLongBits_ccdee_0 rfl (lv_at hl 0 rfl) ?_
  refine mz_S S hG hM hS (As := [.double x0]) (rest := []) (c_Jxe99ae_isNaN_b9ae7 h) yf_Jxe99ae_isNaN_b9ae7 tw_1854 tw_1855 ⟨Nat.le_of_ble_eq_true rfl, Nat.le_of_ble_eq_true rfl⟩ ⟨(Nat.le_of_ble_eq_true rfl), (Nat.le_of_ble_eq_true rfl)⟩ rfl hl.1 rfl (Nat.le_of_ble_eq_true rfl) dJxe99ae_doubleToLongBits_ccdee_1 (fun v9 μ9 H locs hp hM hS => ?_)
  obtain ⟨u1, rfl, e9, h⟩ := hp
  rw [e9] at hM
  refine W.cs (cells' := 0) (slots' := 0) rfl rfl ?_
  obtain ⟨c2, h⟩ := h
  refine lv_if_ne (tgt := 12) S.1 S.2.1 dJxe99ae_doubleToLongBits_ccdee_4 (by decide) (fun c => absurd c2 c) (fun _ => ?_)
  refine lv_dload_n S.1 S.2.1 dJxe99ae_doubleToLongBits_ccdee_7 rfl (lv_at hl 0 rfl) ?_
  refine vn_d2l S.1 S.2.1 (S.2.2.1.trans hl.1.symm) S.2.2.2.1 (S.2.2.2.2 _ tw_1857) (S.2.2.2.2 _ tw_1859) (S.2.2.2.2 _ tw_1858) (S.2.2.2.2 _ tw_28) (Nat.le_of_ble_eq_true rfl) (Nat.le_of_ble_eq_true rfl) dJxe99ae_doubleToLongBits_ccdee_8 ?_
  exact mz_lret S hr hlk hM hS (Nat.le_of_ble_eq_true rfl) (Nat.le_of_ble_eq_true rfl) dJxe99ae_doubleToLongBits_ccdee_11 ⟨_, rfl, rfl, h⟩
set_option maxRecDepth 100000 in
set_option maxHeartbeats 4000000 in
theorem c_X11_meanAttemptsBits {l : Launch} {G : mgT} {μ : mmT} {o : Nat} {Q : Int64 → mmT → Prop} (h : w_X11_meanAttemptsBits G μ o Q) : MC G l yX11_meanAttemptsBits cX11_meanAttemptsBits 1 (some .long) { frames := 2, cells := 0, slots := 0, locals := 51 } [.ref o] μ (pL Q) := by
  refine mz_MC (by decide +kernel) (Nat.le_of_ble_eq_true rfl) (fun p e s m args below meth c S hG hr hlk hnm => ?_)
  have hB36 : ∀ (s0 : Int64) (μ : mmT) (H : Heap) (locs : List Loc) (ls : Array Slot), Mm G μ H → va_S (Ah G) s.heap H locs → lv_has ls 1 [(0, .ref o)] → w_X11_meanAttemptsBits_b36 G o Q  s0 μ → W p l e { frames := 2, cells := 0, slots := 0, locals := 51 } s m args below meth c H locs 0 0 (MQ below (mQ G (pL Q)) args s 0 0 (Ah G)) (F0 m 36 ls [.long s0]) := by
    intro  s0 μ H locs ls hM hS hl h
    unfold w_X11_meanAttemptsBits_b36 at h
    exact mz_lret S hr hlk hM hS (Nat.le_of_ble_eq_true rfl) (Nat.le_of_ble_eq_true rfl) dX11_meanAttemptsBits_36 ⟨_, rfl, h⟩
  have hB15 : ∀ (s0 : Option Nat) (s1 : Int32) (μ : mmT) (H : Heap) (locs : List Loc) (ls : Array Slot), Mm G μ H → va_S (Ah G) s.heap H locs → lv_has ls 1 [(0, .ref o)] → w_X11_meanAttemptsBits_b15 G o Q  s0 s1 μ → W p l e { frames := 2, cells := 0, slots := 0, locals := 51 } s m args below meth c H locs 0 0 (MQ below (mQ G (pL Q)) args s 0 0 (Ah G)) (F0 m 15 ls [.int s1, va_rf s0]) := by
    intro  s0 s1 μ H locs ls hM hS hl h
    unfold w_X11_meanAttemptsBits_b15 at h
    obtain ⟨a7, e8, h⟩ := h
    refine mz_o1 e8 ?_
    obtain ⟨k9, h⟩ := h
    refine mz_puti S hG hM hS cf_10 fd_320 tw_1482 dX11_meanAttemptsBits_15 k9 rfl rfl (fun H locs hM hS hz9 => ?_)
    refine lv_aload_n S.1 S.2.1 dX11_meanAttemptsBits_18 rfl (lv_at hl 0 rfl) ?_
    obtain ⟨k10, h⟩ := h
    refine mz_geti S hG hM cf_10 fd_320 tw_1482 dX11_meanAttemptsBits_19 k10 ?_
    refine lv_if_le (tgt := 29) S.1 S.2.1 dX11_meanAttemptsBits_22 (by decide) (fun c11 => ?_) (fun c11 => ?_)
    · have h := h.1 c11
      refine lv_aload_n S.1 S.2.1 dX11_meanAttemptsBits_29 rfl (lv_at hl 0 rfl) ?_
      refine mz_V S hG hM hS cf_10 k10 (As := []) (rest := []) (c_X11_mean h) yf_X11_mean tw_1843 tw_1845 ts_53 ⟨Nat.le_of_ble_eq_true rfl, Nat.le_of_ble_eq_true rfl⟩ ⟨(Nat.le_of_ble_eq_true rfl), (Nat.le_of_ble_eq_true rfl)⟩ rfl hl.1 rfl (Nat.le_of_ble_eq_true rfl) dX11_meanAttemptsBits_30 (fun v9 μ9 H locs hp hM hS => ?_)
      obtain ⟨u12, rfl, e9, h⟩ := hp
      rw [e9] at hM
      refine W.cs (cells' := 0) (slots' := 0) rfl rfl ?_
      refine mz_S S hG hM hS (As := [.double u12]) (rest := []) (c_Jxe99ae_doubleToLongBits_ccdee h) yf_Jxe99ae_doubleToLongBits_ccdee tw_1851 tw_1852 ⟨Nat.le_of_ble_eq_true rfl, Nat.le_of_ble_eq_true rfl⟩ ⟨(Nat.le_of_ble_eq_true rfl), (Nat.le_of_ble_eq_true rfl)⟩ rfl hl.1 rfl (Nat.le_of_ble_eq_true rfl) dX11_meanAttemptsBits_33 (fun v9 μ9 H locs hp hM hS => ?_)
      obtain ⟨u13, rfl, e9, h⟩ := hp
      rw [e9] at hM
      refine W.cs (cells' := 0) (slots' := 0) rfl rfl ?_
      exact hB36  u13 (sI μ 320 a7 s1) H locs ls hM hS (lv_sub hl [0] rfl) h
    · have h := h.2 c11
      refine lv_lconst (v := lN 0) S.1 S.2.1 dX11_meanAttemptsBits_25 rfl ?_
      refine lv_goto (tgt := 36) S.1 S.2.1 dX11_meanAttemptsBits_26 (by decide) ?_
      exact hB36  (lN 0) (sI μ 320 a7 s1) H locs ls hM hS (lv_sub hl [0] rfl) h
  intro H locs ls hM hS hl
  have hl : lv_has ls 1 [(0, .ref o)] := hl
  unfold w_X11_meanAttemptsBits at h
  refine lv_aload_n S.1 S.2.1 dX11_meanAttemptsBits_0 rfl (lv_at hl 0 rfl) ?_
  refine lv_aload_n S.1 S.2.1 dX11_meanAttemptsBits_1 rfl (lv_at hl 0 rfl) ?_
  obtain ⟨k1, h⟩ := h
  refine mz_getr S hG hM cf_10 fd_321 tw_1483 dX11_meanAttemptsBits_2 k1 ?_
  refine lv_iconst (v := (nI 2)) S.1 S.2.1 dX11_meanAttemptsBits_5 (by decide) ?_
  obtain ⟨a2, e3, h⟩ := h
  refine mz_o1 e3 ?_
  obtain ⟨k4, h⟩ := h
  obtain ⟨b5, h⟩ := h
  refine mz_iald S hG hM dX11_meanAttemptsBits_6 k4 b5 ?_
  refine lv_if_ne (tgt := 14) S.1 S.2.1 dX11_meanAttemptsBits_7 (by decide) (fun c6 => ?_) (fun c6 => ?_)
  · have h := h.1 c6
    refine lv_iconst (v := (nI 0)) S.1 S.2.1 dX11_meanAttemptsBits_14 (by decide) ?_
    exact hB15  (some o) (nI 0) μ H locs ls hM hS (lv_sub hl [0] rfl) h
  · have h := h.2 c6
    refine lv_iconst (v := (nI 1)) S.1 S.2.1 dX11_meanAttemptsBits_10 (by decide) ?_
    refine lv_goto (tgt := 15) S.1 S.2.1 dX11_meanAttemptsBits_11 (by decide) ?_
    exact hB15  (some o) (nI 1) μ H locs ls hM hS (lv_sub hl [0] rfl) h
set_option maxRecDepth 100000 in
set_option maxHeartbeats 4000000 in
theorem c_X11_rate {l : Launch} {G : mgT} {μ : mmT} {o : Nat} {Q : UInt32 → Prop} (h : w_X11_rate G μ o Q) : MC G l yX11_rate cX11_rate 1 (some .float) { frames := 0, cells := 0, slots := 0, locals := 0 } [.ref o] μ (pF (fun r μ' => μ' = μ ∧ Q r)) := by
  refine mz_MC (by decide +kernel) (Nat.le_of_ble_eq_true rfl) (fun p e s m args below meth c S hG hr hlk hnm => ?_)
  intro H locs ls hM hS hl
  have hl : lv_has ls 1 [(0, .ref o)] := hl
  unfold w_X11_rate at h
  refine lv_aload_n S.1 S.2.1 dX11_rate_0 rfl (lv_at hl 0 rfl) ?_
  obtain ⟨k1, h⟩ := h
  refine mz_getr S hG hM cf_10 fd_321 tw_1483 dX11_rate_1 k1 ?_
  refine lv_bipush (v := (nI 6)) S.1 S.2.1 dX11_rate_4 (by decide) ?_
  obtain ⟨a2, e3, h⟩ := h
  refine mz_o1 e3 ?_
  obtain ⟨k4, h⟩ := h
  obtain ⟨b5, h⟩ := h
  refine mz_iald S hG hM dX11_rate_6 k4 b5 ?_
  refine lv_i2f S.1 S.2.1 dX11_rate_7 ?_
  refine lv_aload_n S.1 S.2.1 dX11_rate_8 rfl (lv_at hl 0 rfl) ?_
  refine mz_getr S hG hM cf_10 fd_321 tw_1483 dX11_rate_9 k1 ?_
  refine lv_bipush (v := (nI 10)) S.1 S.2.1 dX11_rate_12 (by decide) ?_
  refine mz_o1 e3 ?_
  obtain ⟨b6, h⟩ := h
  refine mz_iald S hG hM dX11_rate_14 k4 b6 ?_
  refine lv_i2f S.1 S.2.1 dX11_rate_15 ?_
  obtain ⟨g7, h⟩ := h
  refine lv_fdiv S.1 S.2.1 dX11_rate_16 g7 ?_
  exact mz_fret S hr hlk hM hS (Nat.le_of_ble_eq_true rfl) (Nat.le_of_ble_eq_true rfl) dX11_rate_17 ⟨_, rfl, rfl, h⟩
set_option maxRecDepth 100000 in
set_option maxHeartbeats 4000000 in
theorem c_X11_deliveryRate {l : Launch} {G : mgT} {μ : mmT} {o : Nat} {Q : UInt32 → mmT → Prop} (h : w_X11_deliveryRate G μ o Q) : MC G l yX11_deliveryRate cX11_deliveryRate 1 (some .float) { frames := 1, cells := 0, slots := 0, locals := 20 } [.ref o] μ (pF Q) := by
  refine mz_MC (by decide +kernel) (Nat.le_of_ble_eq_true rfl) (fun p e s m args below meth c S hG hr hlk hnm => ?_)
  have hB34 : ∀ (s0 : UInt32) (μ : mmT) (H : Heap) (locs : List Loc) (ls : Array Slot), Mm G μ H → va_S (Ah G) s.heap H locs → lv_has ls 1 [(0, .ref o)] → w_X11_deliveryRate_b34 G o Q  s0 μ → W p l e { frames := 1, cells := 0, slots := 0, locals := 20 } s m args below meth c H locs 0 0 (MQ below (mQ G (pF Q)) args s 0 0 (Ah G)) (F0 m 34 ls [.float s0]) := by
    intro  s0 μ H locs ls hM hS hl h
    unfold w_X11_deliveryRate_b34 at h
    exact mz_fret S hr hlk hM hS (Nat.le_of_ble_eq_true rfl) (Nat.le_of_ble_eq_true rfl) dX11_deliveryRate_34 ⟨_, rfl, h⟩
  have hB16 : ∀ (s0 : Option Nat) (s1 : Int32) (μ : mmT) (H : Heap) (locs : List Loc) (ls : Array Slot), Mm G μ H → va_S (Ah G) s.heap H locs → lv_has ls 1 [(0, .ref o)] → w_X11_deliveryRate_b16 G o Q  s0 s1 μ → W p l e { frames := 1, cells := 0, slots := 0, locals := 20 } s m args below meth c H locs 0 0 (MQ below (mQ G (pF Q)) args s 0 0 (Ah G)) (F0 m 16 ls [.int s1, va_rf s0]) := by
    intro  s0 s1 μ H locs ls hM hS hl h
    unfold w_X11_deliveryRate_b16 at h
    obtain ⟨a7, e8, h⟩ := h
    refine mz_o1 e8 ?_
    obtain ⟨k9, h⟩ := h
    refine mz_puti S hG hM hS cf_10 fd_320 tw_1482 dX11_deliveryRate_16 k9 rfl rfl (fun H locs hM hS hz9 => ?_)
    refine lv_aload_n S.1 S.2.1 dX11_deliveryRate_19 rfl (lv_at hl 0 rfl) ?_
    obtain ⟨k10, h⟩ := h
    refine mz_geti S hG hM cf_10 fd_320 tw_1482 dX11_deliveryRate_20 k10 ?_
    refine lv_if_le (tgt := 30) S.1 S.2.1 dX11_deliveryRate_23 (by decide) (fun c11 => ?_) (fun c11 => ?_)
    · have h := h.1 c11
      refine lv_aload_n S.1 S.2.1 dX11_deliveryRate_30 rfl (lv_at hl 0 rfl) ?_
      refine mz_V S hG hM hS cf_10 k10 (As := []) (rest := []) (c_X11_rate h) yf_X11_rate tw_1865 tw_1867 ts_54 ⟨Nat.le_of_ble_eq_true rfl, Nat.le_of_ble_eq_true rfl⟩ ⟨(Nat.le_of_ble_eq_true rfl), (Nat.le_of_ble_eq_true rfl)⟩ rfl hl.1 rfl (Nat.le_of_ble_eq_true rfl) dX11_deliveryRate_31 (fun v9 μ9 H locs hp hM hS => ?_)
      obtain ⟨u12, rfl, e9, h⟩ := hp
      rw [e9] at hM
      refine W.cs (cells' := 0) (slots' := 0) rfl rfl ?_
      exact hB34  u12 (sI μ 320 a7 s1) H locs ls hM hS (lv_sub hl [0] rfl) h
    · have h := h.2 c11
      refine lv_fconst0 S.1 S.2.1 dX11_deliveryRate_26 ?_
      refine lv_goto (tgt := 34) S.1 S.2.1 dX11_deliveryRate_27 (by decide) ?_
      exact hB34  FP.fconst0 (sI μ 320 a7 s1) H locs ls hM hS (lv_sub hl [0] rfl) h
  intro H locs ls hM hS hl
  have hl : lv_has ls 1 [(0, .ref o)] := hl
  unfold w_X11_deliveryRate at h
  refine lv_aload_n S.1 S.2.1 dX11_deliveryRate_0 rfl (lv_at hl 0 rfl) ?_
  refine lv_aload_n S.1 S.2.1 dX11_deliveryRate_1 rfl (lv_at hl 0 rfl) ?_
  obtain ⟨k1, h⟩ := h
  refine mz_getr S hG hM cf_10 fd_321 tw_1483 dX11_deliveryRate_2 k1 ?_
  refine lv_bipush (v := (nI 10)) S.1 S.2.1 dX11_deliveryRate_5 (by decide) ?_
  obtain ⟨a2, e3, h⟩ := h
  refine mz_o1 e3 ?_
  obtain ⟨k4, h⟩ := h
  obtain ⟨b5, h⟩ := h
  refine mz_iald S hG hM dX11_deliveryRate_7 k4 b5 ?_
  refine lv_if_ne (tgt := 15) S.1 S.2.1 dX11_deliveryRate_8 (by decide) (fun c6 => ?_) (fun c6 => ?_)
  · have h := h.1 c6
    refine lv_iconst (v := (nI 0)) S.1 S.2.1 dX11_deliveryRate_15 (by decide) ?_
    exact hB16  (some o) (nI 0) μ H locs ls hM hS (lv_sub hl [0] rfl) h
  · have h := h.2 c6
    refine lv_iconst (v := (nI 1)) S.1 S.2.1 dX11_deliveryRate_11 (by decide) ?_
    refine lv_goto (tgt := 16) S.1 S.2.1 dX11_deliveryRate_12 (by decide) ?_
    exact hB16  (some o) (nI 1) μ H locs ls hM hS (lv_sub hl [0] rfl) h
set_option maxRecDepth 100000 in
set_option maxHeartbeats 4000000 in
theorem c_Jxf58ca_isNaN_12338 {l : Launch} {G : mgT} {μ : mmT} {x0 : UInt32} {Q : Int32 → Prop} (h : w_Jxf58ca_isNaN_12338 G μ x0 Q) : MC G l yJxf58ca_isNaN_12338 cJxf58ca_isNaN_12338 1 (some .boolean) { frames := 0, cells := 0, slots := 0, locals := 0 } [.float x0] μ (pI (fun r μ' => μ' = μ ∧ Q r)) := by
  refine mz_MCF (by decide +kernel) (Nat.le_of_ble_eq_true rfl) (fun p e s m args below meth c S hG hr hlk hnm => ?_)
  have hB11 : ∀ (s0 : Int32) (H : Heap) (locs : List Loc) (ls : Array Slot), Mm G μ H → va_S (Ah G) s.heap H locs → lv_has ls 1 [] → w_Jxf58ca_isNaN_12338_b11 G μ Q  s0 → W p l e { frames := 0, cells := 0, slots := 0, locals := 0 } s m args below meth c H locs 0 0 (MQ below (mQ G (pI (fun r μ' => μ' = μ ∧ Q r))) args s 0 0 (Ah G)) (F0 m 11 ls [.int s0]) := by
    intro  s0 H locs ls hM hS hl h
    unfold w_Jxf58ca_isNaN_12338_b11 at h
    obtain ⟨f2, h⟩ := h
    exact mz_iret S hr hlk hM hS (mz_nZ f2) (Nat.le_of_ble_eq_true rfl) (Nat.le_of_ble_eq_true rfl) dJxf58ca_isNaN_12338_11 ⟨_, rfl, rfl, h⟩
  intro H locs ls hM hS hl
  have hl : lv_has ls 1 [(0, .float x0)] := hl
  unfold w_Jxf58ca_isNaN_12338 at h
  refine lv_fload_n S.1 S.2.1 dJxf58ca_isNaN_12338_0 rfl (lv_at hl 0 rfl) ?_
  refine lv_fload_n S.1 S.2.1 dJxf58ca_isNaN_12338_1 rfl (lv_at hl 0 rfl) ?_
  refine lv_fcmp S.1 S.2.1 dJxf58ca_isNaN_12338_2 ?_
  refine lv_if_eq (tgt := 10) S.1 S.2.1 dJxf58ca_isNaN_12338_3 (by decide) (fun c1 => ?_) (fun c1 => ?_)
  · have h := h.1 c1
    refine lv_iconst (v := (nI 0)) S.1 S.2.1 dJxf58ca_isNaN_12338_10 (by decide) ?_
    exact hB11  (nI 0) H locs ls hM hS (lv_sub hl [] rfl) h
  · have h := h.2 c1
    refine lv_iconst (v := (nI 1)) S.1 S.2.1 dJxf58ca_isNaN_12338_6 (by decide) ?_
    refine lv_goto (tgt := 11) S.1 S.2.1 dJxf58ca_isNaN_12338_7 (by decide) ?_
    exact hB11  (nI 1) H locs ls hM hS (lv_sub hl [] rfl) h
set_option maxRecDepth 100000 in
set_option maxHeartbeats 4000000 in
theorem c_Jxf58ca_floatToIntBits_5c35a {l : Launch} {G : mgT} {μ : mmT} {x0 : UInt32} {Q : Int32 → Prop} (h : w_Jxf58ca_floatToIntBits_5c35a G μ x0 Q) : MC G l yJxf58ca_floatToIntBits_5c35a cJxf58ca_floatToIntBits_5c35a 1 (some .int) { frames := 1, cells := 0, slots := 0, locals := 30 } [.float x0] μ (pI (fun r μ' => μ' = μ ∧ Q r)) := by
  refine mz_MCF (by decide +kernel) (Nat.le_of_ble_eq_true rfl) (fun p e s m args below meth c S hG hr hlk hnm => ?_)
  intro H locs ls hM hS hl
  have hl : lv_has ls 1 [(0, .float x0)] := hl
  unfold w_Jxf58ca_floatToIntBits_5c35a at h
  refine lv_fload_n S.1 S.2.1 dJxf58ca_floatToIntBits_5c35a_0 rfl (lv_at hl 0 rfl) ?_
  refine mz_S S hG hM hS (As := [.float x0]) (rest := []) (c_Jxf58ca_isNaN_12338 h) yf_Jxf58ca_isNaN_12338 tw_1876 tw_1877 ⟨Nat.le_of_ble_eq_true rfl, Nat.le_of_ble_eq_true rfl⟩ ⟨(Nat.le_of_ble_eq_true rfl), (Nat.le_of_ble_eq_true rfl)⟩ rfl hl.1 rfl (Nat.le_of_ble_eq_true rfl) dJxf58ca_floatToIntBits_5c35a_1 (fun v9 μ9 H locs hp hM hS => ?_)
  obtain ⟨u1, rfl, e9, h⟩ := hp
  rw [e9] at hM
  refine W.cs (cells' := 0) (slots' := 0) rfl rfl ?_
  obtain ⟨c2, h⟩ := h
  refine lv_if_ne (tgt := 12) S.1 S.2.1 dJxf58ca_floatToIntBits_5c35a_4 (by decide) (fun c => absurd c2 c) (fun _ => ?_)
  refine lv_fload_n S.1 S.2.1 dJxf58ca_floatToIntBits_5c35a_7 rfl (lv_at hl 0 rfl) ?_
  refine vn_f2i S.1 S.2.1 (S.2.2.1.trans hl.1.symm) S.2.2.2.1 (S.2.2.2.2 _ tw_1879) (S.2.2.2.2 _ tw_1881) (S.2.2.2.2 _ tw_1880) (S.2.2.2.2 _ tw_29) (Nat.le_of_ble_eq_true rfl) (Nat.le_of_ble_eq_true rfl) dJxf58ca_floatToIntBits_5c35a_8 ?_
  exact mz_iret S hr hlk hM hS rfl (Nat.le_of_ble_eq_true rfl) (Nat.le_of_ble_eq_true rfl) dJxf58ca_floatToIntBits_5c35a_11 ⟨_, rfl, rfl, h⟩
set_option maxRecDepth 100000 in
set_option maxHeartbeats 4000000 in
theorem c_X11_deliveryRateBits {l : Launch} {G : mgT} {μ : mmT} {o : Nat} {Q : Int32 → mmT → Prop} (h : w_X11_deliveryRateBits G μ o Q) : MC G l yX11_deliveryRateBits cX11_deliveryRateBits 1 (some .int) { frames := 2, cells := 0, slots := 0, locals := 50 } [.ref o] μ (pI Q) := by
  refine mz_MC (by decide +kernel) (Nat.le_of_ble_eq_true rfl) (fun p e s m args below meth c S hG hr hlk hnm => ?_)
  have hB37 : ∀ (s0 : Int32) (μ : mmT) (H : Heap) (locs : List Loc) (ls : Array Slot), Mm G μ H → va_S (Ah G) s.heap H locs → lv_has ls 1 [(0, .ref o)] → w_X11_deliveryRateBits_b37 G o Q  s0 μ → W p l e { frames := 2, cells := 0, slots := 0, locals := 50 } s m args below meth c H locs 0 0 (MQ below (mQ G (pI Q)) args s 0 0 (Ah G)) (F0 m 37 ls [.int s0]) := by
    intro  s0 μ H locs ls hM hS hl h
    unfold w_X11_deliveryRateBits_b37 at h
    exact mz_iret S hr hlk hM hS rfl (Nat.le_of_ble_eq_true rfl) (Nat.le_of_ble_eq_true rfl) dX11_deliveryRateBits_37 ⟨_, rfl, h⟩
  have hB16 : ∀ (s0 : Option Nat) (s1 : Int32) (μ : mmT) (H : Heap) (locs : List Loc) (ls : Array Slot), Mm G μ H → va_S (Ah G) s.heap H locs → lv_has ls 1 [(0, .ref o)] → w_X11_deliveryRateBits_b16 G o Q  s0 s1 μ → W p l e { frames := 2, cells := 0, slots := 0, locals := 50 } s m args below meth c H locs 0 0 (MQ below (mQ G (pI Q)) args s 0 0 (Ah G)) (F0 m 16 ls [.int s1, va_rf s0]) := by
    intro  s0 s1 μ H locs ls hM hS hl h
    unfold w_X11_deliveryRateBits_b16 at h
    obtain ⟨a7, e8, h⟩ := h
    refine mz_o1 e8 ?_
    obtain ⟨k9, h⟩ := h
    refine mz_puti S hG hM hS cf_10 fd_320 tw_1482 dX11_deliveryRateBits_16 k9 rfl rfl (fun H locs hM hS hz9 => ?_)
    refine lv_aload_n S.1 S.2.1 dX11_deliveryRateBits_19 rfl (lv_at hl 0 rfl) ?_
    obtain ⟨k10, h⟩ := h
    refine mz_geti S hG hM cf_10 fd_320 tw_1482 dX11_deliveryRateBits_20 k10 ?_
    refine lv_if_le (tgt := 30) S.1 S.2.1 dX11_deliveryRateBits_23 (by decide) (fun c11 => ?_) (fun c11 => ?_)
    · have h := h.1 c11
      refine lv_aload_n S.1 S.2.1 dX11_deliveryRateBits_30 rfl (lv_at hl 0 rfl) ?_
      refine mz_V S hG hM hS cf_10 k10 (As := []) (rest := []) (c_X11_rate h) yf_X11_rate tw_1865 tw_1867 ts_54 ⟨Nat.le_of_ble_eq_true rfl, Nat.le_of_ble_eq_true rfl⟩ ⟨(Nat.le_of_ble_eq_true rfl), (Nat.le_of_ble_eq_true rfl)⟩ rfl hl.1 rfl (Nat.le_of_ble_eq_true rfl) dX11_deliveryRateBits_31 (fun v9 μ9 H locs hp hM hS => ?_)
      obtain ⟨u12, rfl, e9, h⟩ := hp
      rw [e9] at hM
      refine W.cs (cells' := 0) (slots' := 0) rfl rfl ?_
      refine mz_S S hG hM hS (As := [.float u12]) (rest := []) (c_Jxf58ca_floatToIntBits_5c35a h) yf_Jxf58ca_floatToIntBits_5c35a tw_1873 tw_1874 ⟨Nat.le_of_ble_eq_true rfl, Nat.le_of_ble_eq_true rfl⟩ ⟨(Nat.le_of_ble_eq_true rfl), (Nat.le_of_ble_eq_true rfl)⟩ rfl hl.1 rfl (Nat.le_of_ble_eq_true rfl) dX11_deliveryRateBits_34 (fun v9 μ9 H locs hp hM hS => ?_)
      obtain ⟨u13, rfl, e9, h⟩ := hp
      rw [e9] at hM
      refine W.cs (cells' := 0) (slots' := 0) rfl rfl ?_
      exact hB37  u13 (sI μ 320 a7 s1) H locs ls hM hS (lv_sub hl [0] rfl) h
    · have h := h.2 c11
      refine lv_iconst (v := (nI 0)) S.1 S.2.1 dX11_deliveryRateBits_26 (by decide) ?_
      refine lv_goto (tgt := 37) S.1 S.2.1 dX11_deliveryRateBits_27 (by decide) ?_
      exact hB37  (nI 0) (sI μ 320 a7 s1) H locs ls hM hS (lv_sub hl [0] rfl) h
  intro H locs ls hM hS hl
  have hl : lv_has ls 1 [(0, .ref o)] := hl
  unfold w_X11_deliveryRateBits at h
  refine lv_aload_n S.1 S.2.1 dX11_deliveryRateBits_0 rfl (lv_at hl 0 rfl) ?_
  refine lv_aload_n S.1 S.2.1 dX11_deliveryRateBits_1 rfl (lv_at hl 0 rfl) ?_
  obtain ⟨k1, h⟩ := h
  refine mz_getr S hG hM cf_10 fd_321 tw_1483 dX11_deliveryRateBits_2 k1 ?_
  refine lv_bipush (v := (nI 10)) S.1 S.2.1 dX11_deliveryRateBits_5 (by decide) ?_
  obtain ⟨a2, e3, h⟩ := h
  refine mz_o1 e3 ?_
  obtain ⟨k4, h⟩ := h
  obtain ⟨b5, h⟩ := h
  refine mz_iald S hG hM dX11_deliveryRateBits_7 k4 b5 ?_
  refine lv_if_ne (tgt := 15) S.1 S.2.1 dX11_deliveryRateBits_8 (by decide) (fun c6 => ?_) (fun c6 => ?_)
  · have h := h.1 c6
    refine lv_iconst (v := (nI 0)) S.1 S.2.1 dX11_deliveryRateBits_15 (by decide) ?_
    exact hB16  (some o) (nI 0) μ H locs ls hM hS (lv_sub hl [0] rfl) h
  · have h := h.2 c6
    refine lv_iconst (v := (nI 1)) S.1 S.2.1 dX11_deliveryRateBits_11 (by decide) ?_
    refine lv_goto (tgt := 16) S.1 S.2.1 dX11_deliveryRateBits_12 (by decide) ?_
    exact hB16  (some o) (nI 1) μ H locs ls hM hS (lv_sub hl [0] rfl) h
set_option maxRecDepth 100000 in
set_option maxHeartbeats 4000000 in
theorem c_X11_isConsistent {l : Launch} {G : mgT} {μ : mmT} {o : Nat} {Q : Int32 → mmT → Prop} (h : w_X11_isConsistent G μ o Q) : MC G l yX11_isConsistent cX11_isConsistent 1 (some .boolean) { frames := 0, cells := 0, slots := 0, locals := 0 } [.ref o] μ (pI Q) := by
  refine mz_MC (by decide +kernel) (Nat.le_of_ble_eq_true rfl) (fun p e s m args below meth c S hG hr hlk hnm => ?_)
  intro H locs ls hM hS hl
  have hl : lv_has ls 1 [(0, .ref o)] := hl
  unfold w_X11_isConsistent at h
  refine lv_aload_n S.1 S.2.1 dX11_isConsistent_0 rfl (lv_at hl 0 rfl) ?_
  refine lv_iconst (v := (nI 0)) S.1 S.2.1 dX11_isConsistent_1 (by decide) ?_
  obtain ⟨k1, h⟩ := h
  refine mz_puti S hG hM hS cf_10 fd_320 tw_1482 dX11_isConsistent_2 k1 rfl rfl (fun H locs hM hS hz9 => ?_)
  refine lv_iconst (v := (nI 1)) S.1 S.2.1 dX11_isConsistent_5 (by decide) ?_
  exact mz_iret S hr hlk hM hS rfl (Nat.le_of_ble_eq_true rfl) (Nat.le_of_ble_eq_true rfl) dX11_isConsistent_6 ⟨_, rfl, h⟩
set_option maxRecDepth 100000 in
set_option maxHeartbeats 4000000 in
theorem c_X11_writes {l : Launch} {G : mgT} {μ : mmT} {o : Nat} {x1 : Int32} {Q : mmT → Prop} (h : w_X11_writes G μ o x1 Q) : MC G l yX11_writes cX11_writes 2 none { frames := 0, cells := 0, slots := 0, locals := 0 } [.ref o, .int x1] μ (pV Q) := by
  refine mz_MC (by decide +kernel) (Nat.le_of_ble_eq_true rfl) (fun p e s m args below meth c S hG hr hlk hnm => ?_)
  intro H locs ls hM hS hl
  have hl : lv_has ls 2 [(0, .ref o), (1, .int x1)] := hl
  unfold w_X11_writes at h
  refine lv_aload_n S.1 S.2.1 dX11_writes_0 rfl (lv_at hl 0 rfl) ?_
  obtain ⟨k1, h⟩ := h
  refine mz_getr S hG hM cf_10 fd_330 tw_1492 dX11_writes_1 k1 ?_
  refine lv_aload_n S.1 S.2.1 dX11_writes_4 rfl (lv_at hl 0 rfl) ?_
  refine mz_geti S hG hM cf_10 fd_332 tw_1494 dX11_writes_5 k1 ?_
  refine lv_iload_n S.1 S.2.1 dX11_writes_8 rfl (lv_at hl 1 rfl) ?_
  obtain ⟨a2, e3, h⟩ := h
  refine mz_o2 e3 ?_
  obtain ⟨k4, h⟩ := h
  obtain ⟨b5, h⟩ := h
  refine mz_iast S hG hM hS dX11_writes_9 k4 b5 (fun H locs hM hS hz9 => ?_)
  refine lv_aload_n S.1 S.2.1 dX11_writes_10 rfl (lv_at hl 0 rfl) ?_
  refine lv_dup S.1 S.2.1 dX11_writes_11 rfl ?_
  refine mz_geti S hG hM cf_10 fd_332 tw_1494 dX11_writes_12 k1 ?_
  refine lv_iconst (v := (nI 1)) S.1 S.2.1 dX11_writes_15 (by decide) ?_
  refine lv_iadd S.1 S.2.1 dX11_writes_16 ?_
  refine mz_puti S hG hM hS cf_10 fd_332 tw_1494 dX11_writes_17 k1 rfl rfl (fun H locs hM hS hz9 => ?_)
  exact mz_vret S hr hlk hM hS (Nat.le_of_ble_eq_true rfl) (Nat.le_of_ble_eq_true rfl) dX11_writes_20 ⟨rfl, h⟩
set_option maxRecDepth 100000 in
set_option maxHeartbeats 4000000 in
theorem c_X11_writesNumber {l : Launch} {G : mgT} {μ : mmT} {o : Nat} {x1 : Int32} {Q : mmT → Prop} (h : w_X11_writesNumber G μ o x1 Q) : MC G l yX11_writesNumber cX11_writesNumber 2 none { frames := 1, cells := 0, slots := 0, locals := 21 } [.ref o, .int x1] μ (pV Q) := by
  refine mz_MC (by decide +kernel) (Nat.le_of_ble_eq_true rfl) (fun p e s m args below meth c S hG hr hlk hnm => ?_)
  have hB40 : ∀ (x1 : Int32) (μ : mmT) (H : Heap) (locs : List Loc) (ls : Array Slot), Mm G μ H → va_S (Ah G) s.heap H locs → lv_has ls 2 [(0, .ref o), (1, .int x1)] → w_X11_writesNumber_b40 G o Q  x1 μ → W p l e { frames := 1, cells := 0, slots := 0, locals := 21 } s m args below meth c H locs 0 0 (MQ below (mQ G (pV Q)) args s 0 0 (Ah G)) (F0 m 40 ls []) := by
    intro  x1 μ H locs ls hM hS hl h
    unfold w_X11_writesNumber_b40 at h
    refine lv_aload_n S.1 S.2.1 dX11_writesNumber_40 rfl (lv_at hl 0 rfl) ?_
    refine lv_bipush (v := (nI 48)) S.1 S.2.1 dX11_writesNumber_41 (by decide) ?_
    refine lv_iload_n S.1 S.2.1 dX11_writesNumber_43 rfl (lv_at hl 1 rfl) ?_
    refine lv_bipush (v := (nI 10)) S.1 S.2.1 dX11_writesNumber_44 (by decide) ?_
    refine lv_irem S.1 S.2.1 dX11_writesNumber_46 (by decide) ?_
    refine lv_iadd S.1 S.2.1 dX11_writesNumber_47 ?_
    obtain ⟨k4, h⟩ := h
    refine mz_V S hG hM hS cf_10 k4 (As := [.int ((nI 48) + (x1 - x1 / (nI 10) * (nI 10)))]) (rest := []) (c_X11_writes h) yf_X11_writes tw_1891 tw_1893 ts_55 ⟨Nat.le_of_ble_eq_true rfl, Nat.le_of_ble_eq_true rfl⟩ ⟨(Nat.le_of_ble_eq_true rfl), (Nat.le_of_ble_eq_true rfl)⟩ rfl hl.1 rfl (Nat.le_of_ble_eq_true rfl) dX11_writesNumber_48 (fun v9 μ5 H locs hp hM hS => ?_)
    obtain ⟨rfl, h⟩ := hp
    refine W.cs (cells' := 0) (slots' := 0) rfl rfl ?_
    exact mz_vret S hr hlk hM hS (Nat.le_of_ble_eq_true rfl) (Nat.le_of_ble_eq_true rfl) dX11_writesNumber_51 ⟨rfl, h⟩
  have hB20 : ∀ (x1 : Int32) (μ : mmT) (H : Heap) (locs : List Loc) (ls : Array Slot), Mm G μ H → va_S (Ah G) s.heap H locs → lv_has ls 2 [(0, .ref o), (1, .int x1)] → w_X11_writesNumber_b20 G o Q  x1 μ → W p l e { frames := 1, cells := 0, slots := 0, locals := 21 } s m args below meth c H locs 0 0 (MQ below (mQ G (pV Q)) args s 0 0 (Ah G)) (F0 m 20 ls []) := by
    intro  x1 μ H locs ls hM hS hl h
    unfold w_X11_writesNumber_b20 at h
    refine lv_iload_n S.1 S.2.1 dX11_writesNumber_20 rfl (lv_at hl 1 rfl) ?_
    refine lv_bipush (v := (nI 9)) S.1 S.2.1 dX11_writesNumber_21 (by decide) ?_
    refine lv_icmp_le (tgt := 40) S.1 S.2.1 dX11_writesNumber_23 (by decide) (fun c2 => ?_) (fun c2 => ?_)
    · have h := h.1 c2
      exact hB40  x1 μ H locs ls hM hS (lv_sub hl [0, 1] rfl) h
    · have h := h.2 c2
      refine lv_aload_n S.1 S.2.1 dX11_writesNumber_26 rfl (lv_at hl 0 rfl) ?_
      refine lv_bipush (v := (nI 48)) S.1 S.2.1 dX11_writesNumber_27 (by decide) ?_
      refine lv_iload_n S.1 S.2.1 dX11_writesNumber_29 rfl (lv_at hl 1 rfl) ?_
      refine lv_bipush (v := (nI 10)) S.1 S.2.1 dX11_writesNumber_30 (by decide) ?_
      refine lv_idiv S.1 S.2.1 dX11_writesNumber_32 (by decide) ?_
      refine lv_bipush (v := (nI 10)) S.1 S.2.1 dX11_writesNumber_33 (by decide) ?_
      refine lv_irem S.1 S.2.1 dX11_writesNumber_35 (by decide) ?_
      refine lv_iadd S.1 S.2.1 dX11_writesNumber_36 ?_
      obtain ⟨k8, h⟩ := h
      refine mz_V S hG hM hS cf_10 k8 (As := [.int ((nI 48) + ((x1 / (nI 10)) - (x1 / (nI 10)) / (nI 10) * (nI 10)))]) (rest := []) (c_X11_writes h) yf_X11_writes tw_1891 tw_1893 ts_55 ⟨Nat.le_of_ble_eq_true rfl, Nat.le_of_ble_eq_true rfl⟩ ⟨(Nat.le_of_ble_eq_true rfl), (Nat.le_of_ble_eq_true rfl)⟩ rfl hl.1 rfl (Nat.le_of_ble_eq_true rfl) dX11_writesNumber_37 (fun v9 μ9 H locs hp hM hS => ?_)
      obtain ⟨rfl, h⟩ := hp
      refine W.cs (cells' := 0) (slots' := 0) rfl rfl ?_
      exact hB40  x1 μ9 H locs ls hM hS (lv_sub hl [0, 1] rfl) h
  intro H locs ls hM hS hl
  have hl : lv_has ls 2 [(0, .ref o), (1, .int x1)] := hl
  unfold w_X11_writesNumber at h
  refine lv_iload_n S.1 S.2.1 dX11_writesNumber_0 rfl (lv_at hl 1 rfl) ?_
  refine lv_bipush (v := (nI 99)) S.1 S.2.1 dX11_writesNumber_1 (by decide) ?_
  refine lv_icmp_le (tgt := 20) S.1 S.2.1 dX11_writesNumber_3 (by decide) (fun c1 => ?_) (fun c1 => ?_)
  · have h := h.1 c1
    exact hB20  x1 μ H locs ls hM hS (lv_sub hl [0, 1] rfl) h
  · have h := h.2 c1
    refine lv_aload_n S.1 S.2.1 dX11_writesNumber_6 rfl (lv_at hl 0 rfl) ?_
    refine lv_bipush (v := (nI 48)) S.1 S.2.1 dX11_writesNumber_7 (by decide) ?_
    refine lv_iload_n S.1 S.2.1 dX11_writesNumber_9 rfl (lv_at hl 1 rfl) ?_
    refine lv_bipush (v := (nI 100)) S.1 S.2.1 dX11_writesNumber_10 (by decide) ?_
    refine lv_idiv S.1 S.2.1 dX11_writesNumber_12 (by decide) ?_
    refine lv_bipush (v := (nI 10)) S.1 S.2.1 dX11_writesNumber_13 (by decide) ?_
    refine lv_irem S.1 S.2.1 dX11_writesNumber_15 (by decide) ?_
    refine lv_iadd S.1 S.2.1 dX11_writesNumber_16 ?_
    obtain ⟨k12, h⟩ := h
    refine mz_V S hG hM hS cf_10 k12 (As := [.int ((nI 48) + ((x1 / (nI 100)) - (x1 / (nI 100)) / (nI 10) * (nI 10)))]) (rest := []) (c_X11_writes h) yf_X11_writes tw_1891 tw_1893 ts_55 ⟨Nat.le_of_ble_eq_true rfl, Nat.le_of_ble_eq_true rfl⟩ ⟨(Nat.le_of_ble_eq_true rfl), (Nat.le_of_ble_eq_true rfl)⟩ rfl hl.1 rfl (Nat.le_of_ble_eq_true rfl) dX11_writesNumber_17 (fun v9 μ13 H locs hp hM hS => ?_)
    obtain ⟨rfl, h⟩ := hp
    refine W.cs (cells' := 0) (slots' := 0) rfl rfl ?_
    exact hB20  x1 μ13 H locs ls hM hS (lv_sub hl [0, 1] rfl) h
set_option maxRecDepth 100000 in
set_option maxHeartbeats 4000000 in
theorem c_X11_renderMessage {l : Launch} {G : mgT} {μ : mmT} {o : Nat} {x1 : Int32} {Q : Int32 → mmT → Prop} (h : w_X11_renderMessage G μ o x1 Q) : MC G l yX11_renderMessage cX11_renderMessage 3 (some .int) { frames := 2, cells := 0, slots := 0, locals := 44 } [.ref o, .int x1] μ (pI Q) := by
  refine mz_MC (by decide +kernel) (Nat.le_of_ble_eq_true rfl) (fun p e s m args below meth c S hG hr hlk hnm => ?_)
  have hB53 : ∀ (x1 : Int32) (x2 : Int32) (μ : mmT) (H : Heap) (locs : List Loc) (ls : Array Slot), Mm G μ H → va_S (Ah G) s.heap H locs → lv_has ls 3 [(0, .ref o), (1, .int x1), (2, .int x2)] → w_X11_renderMessage_b53 G o Q  x1 x2 μ → W p l e { frames := 2, cells := 0, slots := 0, locals := 44 } s m args below meth c H locs 0 0 (MQ below (mQ G (pI Q)) args s 0 0 (Ah G)) (F0 m 53 ls []) := by
    intro  x1 x2 μ H locs ls hM hS hl h
    unfold w_X11_renderMessage_b53 at h
    refine lv_aload_n S.1 S.2.1 dX11_renderMessage_53 rfl (lv_at hl 0 rfl) ?_
    refine lv_iload_n S.1 S.2.1 dX11_renderMessage_54 rfl (lv_at hl 1 rfl) ?_
    obtain ⟨k10, h⟩ := h
    refine mz_V S hG hM hS cf_10 k10 (As := [.int x1]) (rest := []) (c_X11_writesNumber h) yf_X11_writesNumber tw_1895 tw_1897 ts_56 ⟨Nat.le_of_ble_eq_true rfl, Nat.le_of_ble_eq_true rfl⟩ ⟨(Nat.le_of_ble_eq_true rfl), (Nat.le_of_ble_eq_true rfl)⟩ rfl hl.1 rfl (Nat.le_of_ble_eq_true rfl) dX11_renderMessage_55 (fun v9 μ11 H locs hp hM hS => ?_)
    obtain ⟨rfl, h⟩ := hp
    refine W.cs (cells' := 0) (slots' := 0) rfl rfl ?_
    refine lv_aload_n S.1 S.2.1 dX11_renderMessage_58 rfl (lv_at hl 0 rfl) ?_
    refine lv_bipush (v := (nI 62)) S.1 S.2.1 dX11_renderMessage_59 (by decide) ?_
    obtain ⟨k12, h⟩ := h
    refine mz_V S hG hM hS cf_10 k12 (As := [.int (nI 62)]) (rest := []) (c_X11_writes h) yf_X11_writes tw_1891 tw_1893 ts_55 ⟨Nat.le_of_ble_eq_true rfl, Nat.le_of_ble_eq_true rfl⟩ ⟨(Nat.le_of_ble_eq_true rfl), (Nat.le_of_ble_eq_true rfl)⟩ rfl hl.1 rfl (Nat.le_of_ble_eq_true rfl) dX11_renderMessage_61 (fun v9 μ13 H locs hp hM hS => ?_)
    obtain ⟨rfl, h⟩ := hp
    refine W.cs (cells' := 0) (slots' := 0) rfl rfl ?_
    refine lv_aload_n S.1 S.2.1 dX11_renderMessage_64 rfl (lv_at hl 0 rfl) ?_
    refine lv_aload_n S.1 S.2.1 dX11_renderMessage_65 rfl (lv_at hl 0 rfl) ?_
    refine lv_iload_n S.1 S.2.1 dX11_renderMessage_66 rfl (lv_at hl 2 rfl) ?_
    refine lv_iconst (v := (nI 1)) S.1 S.2.1 dX11_renderMessage_67 (by decide) ?_
    obtain ⟨k14, h⟩ := h
    refine mz_V S hG hM hS cf_10 k14 (As := [.int x2, .int (nI 1)]) (rest := [.ref o]) (c_X11_of h) yf_X11_of tw_1622 tw_1624 ts_36 ⟨Nat.le_of_ble_eq_true rfl, Nat.le_of_ble_eq_true rfl⟩ ⟨(Nat.le_of_ble_eq_true rfl), (Nat.le_of_ble_eq_true rfl)⟩ rfl hl.1 rfl (Nat.le_of_ble_eq_true rfl) dX11_renderMessage_68 (fun v9 μ9 H locs hp hM hS => ?_)
    obtain ⟨u15, rfl, e9, h⟩ := hp
    rw [e9] at hM
    refine W.cs (cells' := 0) (slots' := 0) rfl rfl ?_
    refine mz_V S hG hM hS cf_10 k14 (As := [.int u15]) (rest := []) (c_X11_writesNumber h) yf_X11_writesNumber tw_1895 tw_1897 ts_56 ⟨Nat.le_of_ble_eq_true rfl, Nat.le_of_ble_eq_true rfl⟩ ⟨(Nat.le_of_ble_eq_true rfl), (Nat.le_of_ble_eq_true rfl)⟩ rfl hl.1 rfl (Nat.le_of_ble_eq_true rfl) dX11_renderMessage_71 (fun v9 μ16 H locs hp hM hS => ?_)
    obtain ⟨rfl, h⟩ := hp
    refine W.cs (cells' := 0) (slots' := 0) rfl rfl ?_
    refine lv_aload_n S.1 S.2.1 dX11_renderMessage_74 rfl (lv_at hl 0 rfl) ?_
    refine lv_bipush (v := (nI 107)) S.1 S.2.1 dX11_renderMessage_75 (by decide) ?_
    obtain ⟨k17, h⟩ := h
    refine mz_V S hG hM hS cf_10 k17 (As := [.int (nI 107)]) (rest := []) (c_X11_writes h) yf_X11_writes tw_1891 tw_1893 ts_55 ⟨Nat.le_of_ble_eq_true rfl, Nat.le_of_ble_eq_true rfl⟩ ⟨(Nat.le_of_ble_eq_true rfl), (Nat.le_of_ble_eq_true rfl)⟩ rfl hl.1 rfl (Nat.le_of_ble_eq_true rfl) dX11_renderMessage_77 (fun v9 μ18 H locs hp hM hS => ?_)
    obtain ⟨rfl, h⟩ := hp
    refine W.cs (cells' := 0) (slots' := 0) rfl rfl ?_
    refine lv_aload_n S.1 S.2.1 dX11_renderMessage_80 rfl (lv_at hl 0 rfl) ?_
    refine lv_aload_n S.1 S.2.1 dX11_renderMessage_81 rfl (lv_at hl 0 rfl) ?_
    refine lv_iload_n S.1 S.2.1 dX11_renderMessage_82 rfl (lv_at hl 2 rfl) ?_
    refine lv_iconst (v := (nI 2)) S.1 S.2.1 dX11_renderMessage_83 (by decide) ?_
    obtain ⟨k19, h⟩ := h
    refine mz_V S hG hM hS cf_10 k19 (As := [.int x2, .int (nI 2)]) (rest := [.ref o]) (c_X11_of h) yf_X11_of tw_1622 tw_1624 ts_36 ⟨Nat.le_of_ble_eq_true rfl, Nat.le_of_ble_eq_true rfl⟩ ⟨(Nat.le_of_ble_eq_true rfl), (Nat.le_of_ble_eq_true rfl)⟩ rfl hl.1 rfl (Nat.le_of_ble_eq_true rfl) dX11_renderMessage_84 (fun v9 μ9 H locs hp hM hS => ?_)
    obtain ⟨u20, rfl, e9, h⟩ := hp
    rw [e9] at hM
    refine W.cs (cells' := 0) (slots' := 0) rfl rfl ?_
    refine mz_V S hG hM hS cf_10 k19 (As := [.int u20]) (rest := []) (c_X11_writesNumber h) yf_X11_writesNumber tw_1895 tw_1897 ts_56 ⟨Nat.le_of_ble_eq_true rfl, Nat.le_of_ble_eq_true rfl⟩ ⟨(Nat.le_of_ble_eq_true rfl), (Nat.le_of_ble_eq_true rfl)⟩ rfl hl.1 rfl (Nat.le_of_ble_eq_true rfl) dX11_renderMessage_87 (fun v9 μ21 H locs hp hM hS => ?_)
    obtain ⟨rfl, h⟩ := hp
    refine W.cs (cells' := 0) (slots' := 0) rfl rfl ?_
    refine lv_aload_n S.1 S.2.1 dX11_renderMessage_90 rfl (lv_at hl 0 rfl) ?_
    refine lv_bipush (v := (nI 97)) S.1 S.2.1 dX11_renderMessage_91 (by decide) ?_
    obtain ⟨k22, h⟩ := h
    refine mz_V S hG hM hS cf_10 k22 (As := [.int (nI 97)]) (rest := []) (c_X11_writes h) yf_X11_writes tw_1891 tw_1893 ts_55 ⟨Nat.le_of_ble_eq_true rfl, Nat.le_of_ble_eq_true rfl⟩ ⟨(Nat.le_of_ble_eq_true rfl), (Nat.le_of_ble_eq_true rfl)⟩ rfl hl.1 rfl (Nat.le_of_ble_eq_true rfl) dX11_renderMessage_93 (fun v9 μ23 H locs hp hM hS => ?_)
    obtain ⟨rfl, h⟩ := hp
    refine W.cs (cells' := 0) (slots' := 0) rfl rfl ?_
    refine lv_aload_n S.1 S.2.1 dX11_renderMessage_96 rfl (lv_at hl 0 rfl) ?_
    refine lv_aload_n S.1 S.2.1 dX11_renderMessage_97 rfl (lv_at hl 0 rfl) ?_
    refine lv_iload_n S.1 S.2.1 dX11_renderMessage_98 rfl (lv_at hl 2 rfl) ?_
    refine lv_iconst (v := (nI 3)) S.1 S.2.1 dX11_renderMessage_99 (by decide) ?_
    obtain ⟨k24, h⟩ := h
    refine mz_V S hG hM hS cf_10 k24 (As := [.int x2, .int (nI 3)]) (rest := [.ref o]) (c_X11_of h) yf_X11_of tw_1622 tw_1624 ts_36 ⟨Nat.le_of_ble_eq_true rfl, Nat.le_of_ble_eq_true rfl⟩ ⟨(Nat.le_of_ble_eq_true rfl), (Nat.le_of_ble_eq_true rfl)⟩ rfl hl.1 rfl (Nat.le_of_ble_eq_true rfl) dX11_renderMessage_100 (fun v9 μ9 H locs hp hM hS => ?_)
    obtain ⟨u25, rfl, e9, h⟩ := hp
    rw [e9] at hM
    refine W.cs (cells' := 0) (slots' := 0) rfl rfl ?_
    refine mz_V S hG hM hS cf_10 k24 (As := [.int u25]) (rest := []) (c_X11_writesNumber h) yf_X11_writesNumber tw_1895 tw_1897 ts_56 ⟨Nat.le_of_ble_eq_true rfl, Nat.le_of_ble_eq_true rfl⟩ ⟨(Nat.le_of_ble_eq_true rfl), (Nat.le_of_ble_eq_true rfl)⟩ rfl hl.1 rfl (Nat.le_of_ble_eq_true rfl) dX11_renderMessage_103 (fun v9 μ26 H locs hp hM hS => ?_)
    obtain ⟨rfl, h⟩ := hp
    refine W.cs (cells' := 0) (slots' := 0) rfl rfl ?_
    refine lv_aload_n S.1 S.2.1 dX11_renderMessage_106 rfl (lv_at hl 0 rfl) ?_
    refine lv_aload_n S.1 S.2.1 dX11_renderMessage_107 rfl (lv_at hl 0 rfl) ?_
    refine lv_iload_n S.1 S.2.1 dX11_renderMessage_108 rfl (lv_at hl 2 rfl) ?_
    refine lv_iconst (v := (nI 4)) S.1 S.2.1 dX11_renderMessage_109 (by decide) ?_
    obtain ⟨k27, h⟩ := h
    refine mz_V S hG hM hS cf_10 k27 (As := [.int x2, .int (nI 4)]) (rest := [.ref o]) (c_X11_of h) yf_X11_of tw_1622 tw_1624 ts_36 ⟨Nat.le_of_ble_eq_true rfl, Nat.le_of_ble_eq_true rfl⟩ ⟨(Nat.le_of_ble_eq_true rfl), (Nat.le_of_ble_eq_true rfl)⟩ rfl hl.1 rfl (Nat.le_of_ble_eq_true rfl) dX11_renderMessage_110 (fun v9 μ9 H locs hp hM hS => ?_)
    obtain ⟨u28, rfl, e9, h⟩ := hp
    rw [e9] at hM
    refine W.cs (cells' := 0) (slots' := 0) rfl rfl ?_
    refine mz_V S hG hM hS cf_10 k27 (As := [.int u28]) (rest := []) (c_X11_writes h) yf_X11_writes tw_1891 tw_1893 ts_55 ⟨Nat.le_of_ble_eq_true rfl, Nat.le_of_ble_eq_true rfl⟩ ⟨(Nat.le_of_ble_eq_true rfl), (Nat.le_of_ble_eq_true rfl)⟩ rfl hl.1 rfl (Nat.le_of_ble_eq_true rfl) dX11_renderMessage_113 (fun v9 μ29 H locs hp hM hS => ?_)
    obtain ⟨rfl, h⟩ := hp
    refine W.cs (cells' := 0) (slots' := 0) rfl rfl ?_
    refine lv_aload_n S.1 S.2.1 dX11_renderMessage_116 rfl (lv_at hl 0 rfl) ?_
    obtain ⟨k30, h⟩ := h
    refine mz_geti S hG hM cf_10 fd_332 tw_1494 dX11_renderMessage_117 k30 ?_
    exact mz_iret S hr hlk hM hS rfl (Nat.le_of_ble_eq_true rfl) (Nat.le_of_ble_eq_true rfl) dX11_renderMessage_120 ⟨_, rfl, h⟩
  have hB17 : ∀ (x1 : Int32) (x2 : Int32) (s0 : Option Nat) (s1 : Int32) (μ : mmT) (H : Heap) (locs : List Loc) (ls : Array Slot), Mm G μ H → va_S (Ah G) s.heap H locs → lv_has ls 3 [(0, .ref o), (1, .int x1), (2, .int x2)] → w_X11_renderMessage_b17 G o Q  x1 x2 s0 s1 μ → W p l e { frames := 2, cells := 0, slots := 0, locals := 44 } s m args below meth c H locs 0 0 (MQ below (mQ G (pI Q)) args s 0 0 (Ah G)) (F0 m 17 ls [.int s1, va_rf s0]) := by
    intro  x1 x2 s0 s1 μ H locs ls hM hS hl h
    unfold w_X11_renderMessage_b17 at h
    obtain ⟨a4, e5, h⟩ := h
    refine mz_o1 e5 ?_
    obtain ⟨k6, h⟩ := h
    refine mz_puti S hG hM hS cf_10 fd_320 tw_1482 dX11_renderMessage_17 k6 rfl rfl (fun H locs hM hS hz9 => ?_)
    refine lv_aload_n S.1 S.2.1 dX11_renderMessage_20 rfl (lv_at hl 0 rfl) ?_
    obtain ⟨k7, h⟩ := h
    refine mz_geti S hG hM cf_10 fd_320 tw_1482 dX11_renderMessage_21 k7 ?_
    refine lv_if_le (tgt := 29) S.1 S.2.1 dX11_renderMessage_24 (by decide) (fun c8 => ?_) (fun c8 => ?_)
    · have h := h.1 c8
      refine lv_aload_n S.1 S.2.1 dX11_renderMessage_29 rfl (lv_at hl 0 rfl) ?_
      refine lv_iconst (v := (nI 0)) S.1 S.2.1 dX11_renderMessage_30 (by decide) ?_
      refine mz_puti S hG hM hS cf_10 fd_332 tw_1494 dX11_renderMessage_31 k7 rfl rfl (fun H locs hM hS hz9 => ?_)
      refine lv_iload_n S.1 S.2.1 dX11_renderMessage_34 rfl (lv_at hl 1 rfl) ?_
      refine lv_sipush (v := (nI 999)) S.1 S.2.1 dX11_renderMessage_35 (by decide) ?_
      refine lv_icmp_le (tgt := 53) S.1 S.2.1 dX11_renderMessage_38 (by decide) (fun c9 => ?_) (fun c9 => ?_)
      · have h := h.1 c9
        exact hB53  x1 x2 (sI (sI μ 320 a4 s1) 332 o (nI 0)) H locs ls hM hS (lv_sub hl [0, 1, 2] rfl) h
      · have h := h.2 c9
        refine lv_aload_n S.1 S.2.1 dX11_renderMessage_41 rfl (lv_at hl 0 rfl) ?_
        refine lv_bipush (v := (nI 48)) S.1 S.2.1 dX11_renderMessage_42 (by decide) ?_
        refine lv_iload_n S.1 S.2.1 dX11_renderMessage_44 rfl (lv_at hl 1 rfl) ?_
        refine lv_sipush (v := (nI 1000)) S.1 S.2.1 dX11_renderMessage_45 (by decide) ?_
        refine lv_idiv S.1 S.2.1 dX11_renderMessage_48 (by decide) ?_
        refine lv_iadd S.1 S.2.1 dX11_renderMessage_49 ?_
        refine mz_V S hG hM hS cf_10 k7 (As := [.int ((nI 48) + (x1 / (nI 1000)))]) (rest := []) (c_X11_writes h) yf_X11_writes tw_1891 tw_1893 ts_55 ⟨Nat.le_of_ble_eq_true rfl, Nat.le_of_ble_eq_true rfl⟩ ⟨(Nat.le_of_ble_eq_true rfl), (Nat.le_of_ble_eq_true rfl)⟩ rfl hl.1 rfl (Nat.le_of_ble_eq_true rfl) dX11_renderMessage_50 (fun v9 μ32 H locs hp hM hS => ?_)
        obtain ⟨rfl, h⟩ := hp
        refine W.cs (cells' := 0) (slots' := 0) rfl rfl ?_
        exact hB53  x1 x2 μ32 H locs ls hM hS (lv_sub hl [0, 1, 2] rfl) h
    · have h := h.2 c8
      refine lv_iconst (v := (nI 0)) S.1 S.2.1 dX11_renderMessage_27 (by decide) ?_
      exact mz_iret S hr hlk hM hS rfl (Nat.le_of_ble_eq_true rfl) (Nat.le_of_ble_eq_true rfl) dX11_renderMessage_28 ⟨_, rfl, h⟩
  intro H locs ls hM hS hl
  have hl : lv_has ls 3 [(0, .ref o), (1, .int x1)] := hl
  unfold w_X11_renderMessage at h
  refine lv_aload_n S.1 S.2.1 dX11_renderMessage_0 rfl (lv_at hl 0 rfl) ?_
  refine lv_iload_n S.1 S.2.1 dX11_renderMessage_1 rfl (lv_at hl 1 rfl) ?_
  obtain ⟨k1, h⟩ := h
  refine mz_V S hG hM hS cf_10 k1 (As := [.int x1]) (rest := []) (c_X11_placeOf h) yf_X11_placeOf tw_1618 tw_1620 ts_35 ⟨Nat.le_of_ble_eq_true rfl, Nat.le_of_ble_eq_true rfl⟩ ⟨(Nat.le_of_ble_eq_true rfl), (Nat.le_of_ble_eq_true rfl)⟩ rfl hl.1 rfl (Nat.le_of_ble_eq_true rfl) dX11_renderMessage_2 (fun v9 μ9 H locs hp hM hS => ?_)
  obtain ⟨u2, rfl, e9, h⟩ := hp
  rw [e9] at hM
  refine W.cs (cells' := 0) (slots' := 0) rfl rfl ?_
  refine lv_istore_n (lv' := [(2, .int u2), (0, .ref o), (1, .int x1)]) S.1 S.2.1 dX11_renderMessage_5 rfl hl (by decide) rfl (fun ls hl => ?_)
  refine lv_aload_n S.1 S.2.1 dX11_renderMessage_6 rfl (lv_at hl 1 rfl) ?_
  refine lv_iload_n S.1 S.2.1 dX11_renderMessage_7 rfl (lv_at hl 0 rfl) ?_
  refine lv_iconst (v := (-1)) S.1 S.2.1 dX11_renderMessage_8 (by decide) ?_
  refine lv_icmp_ne (tgt := 16) S.1 S.2.1 dX11_renderMessage_9 (by decide) (fun c3 => ?_) (fun c3 => ?_)
  · have h := h.1 c3
    refine lv_iconst (v := (nI 0)) S.1 S.2.1 dX11_renderMessage_16 (by decide) ?_
    exact hB17  x1 u2 (some o) (nI 0) μ H locs ls hM hS (lv_sub hl [1, 2, 0] rfl) h
  · have h := h.2 c3
    refine lv_iconst (v := (nI 1)) S.1 S.2.1 dX11_renderMessage_12 (by decide) ?_
    refine lv_goto (tgt := 17) S.1 S.2.1 dX11_renderMessage_13 (by decide) ?_
    exact hB17  x1 u2 (some o) (nI 1) μ H locs ls hM hS (lv_sub hl [1, 2, 0] rfl) h
set_option maxRecDepth 100000 in
set_option maxHeartbeats 4000000 in
theorem c_X11_renderCrows {l : Launch} {G : mgT} {μ : mmT} {o : Nat} {Q : Int32 → mmT → Prop} (h : w_X11_renderCrows G μ o Q) : MC G l yX11_renderCrows cX11_renderCrows 2 (some .int) { frames := 1, cells := 0, slots := 0, locals := 21 } [.ref o] μ (pI Q) := by
  refine mz_MC (by decide +kernel) (Nat.le_of_ble_eq_true rfl) (fun p e s m args below meth c S hG hr hlk hnm => ?_)
  have hB63 : ∀ (K12 : Int32 → mmT → Prop) (kK12 : ∀ (x1 : Int32) (μ : mmT) (H : Heap) (locs : List Loc) (ls : Array Slot), Mm G μ H → va_S (Ah G) s.heap H locs → lv_has ls 2 [(0, .ref o), (1, .int x1)] → K12 x1 μ → W p l e { frames := 1, cells := 0, slots := 0, locals := 21 } s m args below meth c H locs 0 0 (MQ below (mQ G (pI Q)) args s 0 0 (Ah G)) (F0 m 12 ls [])) (x1 : Int32) (s0 : Option Nat) (s1 : Int32) (μ : mmT) (H : Heap) (locs : List Loc) (ls : Array Slot), Mm G μ H → va_S (Ah G) s.heap H locs → lv_has ls 2 [(0, .ref o), (1, .int x1)] → w_X11_renderCrows_b63 G o Q K12 x1 s0 s1 μ → W p l e { frames := 1, cells := 0, slots := 0, locals := 21 } s m args below meth c H locs 0 0 (MQ below (mQ G (pI Q)) args s 0 0 (Ah G)) (F0 m 63 ls [.int s1, va_rf s0]) := by
    intro K12 kK12 x1 s0 s1 μ H locs ls hM hS hl h
    unfold w_X11_renderCrows_b63 at h
    obtain ⟨a12, e13, h⟩ := h
    refine mz_o1 e13 ?_
    obtain ⟨k14, h⟩ := h
    refine mz_V S hG hM hS cf_10 k14 (As := [.int s1]) (rest := []) (c_X11_writes h) yf_X11_writes tw_1891 tw_1893 ts_55 ⟨Nat.le_of_ble_eq_true rfl, Nat.le_of_ble_eq_true rfl⟩ ⟨(Nat.le_of_ble_eq_true rfl), (Nat.le_of_ble_eq_true rfl)⟩ rfl hl.1 rfl (Nat.le_of_ble_eq_true rfl) dX11_renderCrows_63 (fun v9 μ15 H locs hp hM hS => ?_)
    obtain ⟨rfl, h⟩ := hp
    refine W.cs (cells' := 0) (slots' := 0) rfl rfl ?_
    refine lv_iinc (v := (x1 + nI 1)) (lv' := [(1, .int (x1 + nI 1)), (0, .ref o)]) S.1 S.2.1 dX11_renderCrows_66 hl (k := 1) rfl rfl (by decide) rfl (fun ls hl => ?_)
    refine lv_goto (tgt := 12) S.1 S.2.1 dX11_renderCrows_69 (by decide) ?_
    exact kK12 (x1 + nI 1) μ15 H locs ls hM hS (lv_sub hl [1, 0] rfl) h
  have hB12 : ∀ (n : Nat) (x1 : Int32) (μ : mmT) (H : Heap) (locs : List Loc) (ls : Array Slot), Mm G μ H → va_S (Ah G) s.heap H locs → lv_has ls 2 [(0, .ref o), (1, .int x1)] → w_X11_renderCrows_l12 G o Q  n x1 μ → W p l e { frames := 1, cells := 0, slots := 0, locals := 21 } s m args below meth c H locs 0 0 (MQ below (mQ G (pI Q)) args s 0 0 (Ah G)) (F0 m 12 ls []) := by
    intro  n
    induction n with
    | zero =>
      intro x1 μ H locs ls hM hS hl h
      exact False.elim h
    | succ n ih =>
      intro x1 μ H locs ls hM hS hl h
      have h : w_X11_renderCrows_b12 G o Q  (w_X11_renderCrows_l12 G o Q  n) x1 μ := h
      unfold w_X11_renderCrows_b12 at h
      refine lv_iload_n S.1 S.2.1 dX11_renderCrows_12 rfl (lv_at hl 1 rfl) ?_
      refine lv_aload_n S.1 S.2.1 dX11_renderCrows_13 rfl (lv_at hl 0 rfl) ?_
      obtain ⟨k2, h⟩ := h
      refine mz_getr S hG hM cf_10 fd_321 tw_1483 dX11_renderCrows_14 k2 ?_
      refine lv_iconst (v := (nI 1)) S.1 S.2.1 dX11_renderCrows_17 (by decide) ?_
      obtain ⟨a3, e4, h⟩ := h
      refine mz_o1 e4 ?_
      obtain ⟨k5, h⟩ := h
      obtain ⟨b6, h⟩ := h
      refine mz_iald S hG hM dX11_renderCrows_18 k5 b6 ?_
      refine lv_icmp_ge (tgt := 72) S.1 S.2.1 dX11_renderCrows_19 (by decide) (fun c7 => ?_) (fun c7 => ?_)
      · have h := h.1 c7
        refine lv_aload_n S.1 S.2.1 dX11_renderCrows_72 rfl (lv_at hl 0 rfl) ?_
        refine mz_geti S hG hM cf_10 fd_332 tw_1494 dX11_renderCrows_73 k2 ?_
        exact mz_iret S hr hlk hM hS rfl (Nat.le_of_ble_eq_true rfl) (Nat.le_of_ble_eq_true rfl) dX11_renderCrows_76 ⟨_, rfl, h⟩
      · have h := h.2 c7
        refine lv_aload_n S.1 S.2.1 dX11_renderCrows_22 rfl (lv_at hl 0 rfl) ?_
        refine lv_aload_n S.1 S.2.1 dX11_renderCrows_23 rfl (lv_at hl 0 rfl) ?_
        refine mz_getr S hG hM cf_10 fd_321 tw_1483 dX11_renderCrows_24 k2 ?_
        refine lv_sipush (v := (nI 138)) S.1 S.2.1 dX11_renderCrows_27 (by decide) ?_
        refine lv_iconst (v := (nI 2)) S.1 S.2.1 dX11_renderCrows_30 (by decide) ?_
        refine lv_iload_n S.1 S.2.1 dX11_renderCrows_31 rfl (lv_at hl 1 rfl) ?_
        refine lv_imul S.1 S.2.1 dX11_renderCrows_32 ?_
        refine lv_iadd S.1 S.2.1 dX11_renderCrows_33 ?_
        refine mz_o1 e4 ?_
        obtain ⟨b8, h⟩ := h
        refine mz_iald S hG hM dX11_renderCrows_34 k5 b8 ?_
        refine lv_if_ne (tgt := 43) S.1 S.2.1 dX11_renderCrows_35 (by decide) (fun c9 => ?_) (fun c9 => ?_)
        · have h := h.1 c9
          refine lv_bipush (v := (nI 48)) S.1 S.2.1 dX11_renderCrows_43 (by decide) ?_
          refine lv_aload_n S.1 S.2.1 dX11_renderCrows_45 rfl (lv_at hl 0 rfl) ?_
          refine mz_getr S hG hM cf_10 fd_321 tw_1483 dX11_renderCrows_46 k2 ?_
          refine lv_sipush (v := (nI 138)) S.1 S.2.1 dX11_renderCrows_49 (by decide) ?_
          refine lv_iconst (v := (nI 2)) S.1 S.2.1 dX11_renderCrows_52 (by decide) ?_
          refine lv_iload_n S.1 S.2.1 dX11_renderCrows_53 rfl (lv_at hl 1 rfl) ?_
          refine lv_imul S.1 S.2.1 dX11_renderCrows_54 ?_
          refine lv_iadd S.1 S.2.1 dX11_renderCrows_55 ?_
          refine mz_o1 e4 ?_
          obtain ⟨b10, h⟩ := h
          refine mz_iald S hG hM dX11_renderCrows_56 k5 b10 ?_
          refine lv_iconst (v := (nI 1)) S.1 S.2.1 dX11_renderCrows_57 (by decide) ?_
          refine lv_isub S.1 S.2.1 dX11_renderCrows_58 ?_
          refine lv_bipush (v := (nI 10)) S.1 S.2.1 dX11_renderCrows_59 (by decide) ?_
          refine lv_irem S.1 S.2.1 dX11_renderCrows_61 (by decide) ?_
          refine lv_iadd S.1 S.2.1 dX11_renderCrows_62 ?_
          exact hB63 (w_X11_renderCrows_l12 G o Q  n) ih x1 (some o) ((nI 48) + (((mA μ a3 ((nI 138) + ((nI 2) * x1)).toNatClampNeg) - (nI 1)) - ((mA μ a3 ((nI 138) + ((nI 2) * x1)).toNatClampNeg) - (nI 1)) / (nI 10) * (nI 10))) μ H locs ls hM hS (lv_sub hl [0, 1] rfl) h
        · have h := h.2 c9
          refine lv_bipush (v := (nI 46)) S.1 S.2.1 dX11_renderCrows_38 (by decide) ?_
          refine lv_goto (tgt := 63) S.1 S.2.1 dX11_renderCrows_40 (by decide) ?_
          exact hB63 (w_X11_renderCrows_l12 G o Q  n) ih x1 (some o) (nI 46) μ H locs ls hM hS (lv_sub hl [0, 1] rfl) h
  intro H locs ls hM hS hl
  have hl : lv_has ls 2 [(0, .ref o)] := hl
  unfold w_X11_renderCrows at h
  refine lv_aload_n S.1 S.2.1 dX11_renderCrows_0 rfl (lv_at hl 0 rfl) ?_
  refine lv_iconst (v := (nI 0)) S.1 S.2.1 dX11_renderCrows_1 (by decide) ?_
  obtain ⟨k1, h⟩ := h
  refine mz_puti S hG hM hS cf_10 fd_320 tw_1482 dX11_renderCrows_2 k1 rfl rfl (fun H locs hM hS hz9 => ?_)
  refine lv_aload_n S.1 S.2.1 dX11_renderCrows_5 rfl (lv_at hl 0 rfl) ?_
  refine lv_iconst (v := (nI 0)) S.1 S.2.1 dX11_renderCrows_6 (by decide) ?_
  refine mz_puti S hG hM hS cf_10 fd_332 tw_1494 dX11_renderCrows_7 k1 rfl rfl (fun H locs hM hS hz9 => ?_)
  refine lv_iconst (v := (nI 0)) S.1 S.2.1 dX11_renderCrows_10 (by decide) ?_
  refine lv_istore_n (lv' := [(1, .int (nI 0)), (0, .ref o)]) S.1 S.2.1 dX11_renderCrows_11 rfl hl (by decide) rfl (fun ls hl => ?_)
  obtain ⟨n9, h⟩ := h
  exact hB12  n9 (nI 0) (sI (sI μ 320 o (nI 0)) 332 o (nI 0)) H locs ls hM hS (lv_sub hl [1, 0] rfl) h
set_option maxRecDepth 100000 in
set_option maxHeartbeats 4000000 in
theorem c_X11_outputAt {l : Launch} {G : mgT} {μ : mmT} {o : Nat} {x1 : Int32} {Q : Int32 → mmT → Prop} (h : w_X11_outputAt G μ o x1 Q) : MC G l yX11_outputAt cX11_outputAt 2 (some .char) { frames := 1, cells := 0, slots := 0, locals := 22 } [.ref o, .int x1] μ (pI Q) := by
  refine mz_MC (by decide +kernel) (Nat.le_of_ble_eq_true rfl) (fun p e s m args below meth c S hG hr hlk hnm => ?_)
  have hB41 : ∀ (s0 : Int32) (μ : mmT) (H : Heap) (locs : List Loc) (ls : Array Slot), Mm G μ H → va_S (Ah G) s.heap H locs → lv_has ls 2 [(0, .ref o)] → w_X11_outputAt_b41 G o Q  s0 μ → W p l e { frames := 1, cells := 0, slots := 0, locals := 22 } s m args below meth c H locs 0 0 (MQ below (mQ G (pI Q)) args s 0 0 (Ah G)) (F0 m 41 ls [.int s0]) := by
    intro  s0 μ H locs ls hM hS hl h
    unfold w_X11_outputAt_b41 at h
    obtain ⟨f13, h⟩ := h
    exact mz_iret S hr hlk hM hS (mz_nC f13) (Nat.le_of_ble_eq_true rfl) (Nat.le_of_ble_eq_true rfl) dX11_outputAt_41 ⟨_, rfl, h⟩
  have hB20 : ∀ (x1 : Int32) (s0 : Option Nat) (s1 : Int32) (μ : mmT) (H : Heap) (locs : List Loc) (ls : Array Slot), Mm G μ H → va_S (Ah G) s.heap H locs → lv_has ls 2 [(0, .ref o), (1, .int x1)] → w_X11_outputAt_b20 G o Q  x1 s0 s1 μ → W p l e { frames := 1, cells := 0, slots := 0, locals := 22 } s m args below meth c H locs 0 0 (MQ below (mQ G (pI Q)) args s 0 0 (Ah G)) (F0 m 20 ls [.int s1, va_rf s0]) := by
    intro  x1 s0 s1 μ H locs ls hM hS hl h
    unfold w_X11_outputAt_b20 at h
    obtain ⟨a4, e5, h⟩ := h
    refine mz_o1 e5 ?_
    obtain ⟨k6, h⟩ := h
    refine mz_puti S hG hM hS cf_10 fd_320 tw_1482 dX11_outputAt_20 k6 rfl rfl (fun H locs hM hS hz9 => ?_)
    refine lv_aload_n S.1 S.2.1 dX11_outputAt_23 rfl (lv_at hl 0 rfl) ?_
    obtain ⟨k7, h⟩ := h
    refine mz_geti S hG hM cf_10 fd_320 tw_1482 dX11_outputAt_24 k7 ?_
    refine lv_if_le (tgt := 34) S.1 S.2.1 dX11_outputAt_27 (by decide) (fun c8 => ?_) (fun c8 => ?_)
    · have h := h.1 c8
      refine lv_aload_n S.1 S.2.1 dX11_outputAt_34 rfl (lv_at hl 0 rfl) ?_
      refine mz_getr S hG hM cf_10 fd_330 tw_1492 dX11_outputAt_35 k7 ?_
      refine lv_iload_n S.1 S.2.1 dX11_outputAt_38 rfl (lv_at hl 1 rfl) ?_
      obtain ⟨a9, e10, h⟩ := h
      refine mz_o1 e10 ?_
      obtain ⟨k11, h⟩ := h
      obtain ⟨b12, h⟩ := h
      refine mz_iald S hG hM dX11_outputAt_39 k11 b12 ?_
      refine lv_i2c S.1 S.2.1 dX11_outputAt_40 rfl ?_
      exact hB41  (((mA (sI μ 320 a4 s1) a9 x1.toNatClampNeg).toUInt32 % 65536).toInt32) (sI μ 320 a4 s1) H locs ls hM hS (lv_sub hl [0] rfl) h
    · have h := h.2 c8
      refine lv_iconst (v := (nI 0)) S.1 S.2.1 dX11_outputAt_30 (by decide) ?_
      refine lv_goto (tgt := 41) S.1 S.2.1 dX11_outputAt_31 (by decide) ?_
      exact hB41  (nI 0) (sI μ 320 a4 s1) H locs ls hM hS (lv_sub hl [0] rfl) h
  intro H locs ls hM hS hl
  have hl : lv_has ls 2 [(0, .ref o), (1, .int x1)] := hl
  unfold w_X11_outputAt at h
  refine lv_aload_n S.1 S.2.1 dX11_outputAt_0 rfl (lv_at hl 0 rfl) ?_
  refine lv_iload_n S.1 S.2.1 dX11_outputAt_1 rfl (lv_at hl 1 rfl) ?_
  refine lv_iconst (v := (nI 0)) S.1 S.2.1 dX11_outputAt_2 (by decide) ?_
  refine lv_aload_n S.1 S.2.1 dX11_outputAt_3 rfl (lv_at hl 0 rfl) ?_
  obtain ⟨k1, h⟩ := h
  refine mz_geti S hG hM cf_10 fd_332 tw_1494 dX11_outputAt_4 k1 ?_
  refine lv_iconst (v := (nI 1)) S.1 S.2.1 dX11_outputAt_7 (by decide) ?_
  refine lv_isub S.1 S.2.1 dX11_outputAt_8 ?_
  refine mz_S S hG hM hS (As := [.int x1, .int (nI 0), .int ((mI μ 332 o) - (nI 1))]) (rest := [.ref o]) (c_X11_in h) yf_X11_in tw_1559 tw_1560 ⟨Nat.le_of_ble_eq_true rfl, Nat.le_of_ble_eq_true rfl⟩ ⟨(Nat.le_of_ble_eq_true rfl), (Nat.le_of_ble_eq_true rfl)⟩ rfl hl.1 rfl (Nat.le_of_ble_eq_true rfl) dX11_outputAt_9 (fun v9 μ9 H locs hp hM hS => ?_)
  obtain ⟨u2, rfl, e9, h⟩ := hp
  rw [e9] at hM
  refine W.cs (cells' := 0) (slots' := 0) rfl rfl ?_
  refine lv_if_eq (tgt := 19) S.1 S.2.1 dX11_outputAt_12 (by decide) (fun c3 => ?_) (fun c3 => ?_)
  · have h := h.1 c3
    refine lv_iconst (v := (nI 1)) S.1 S.2.1 dX11_outputAt_19 (by decide) ?_
    exact hB20  x1 (some o) (nI 1) μ H locs ls hM hS (lv_sub hl [0, 1] rfl) h
  · have h := h.2 c3
    refine lv_iconst (v := (nI 0)) S.1 S.2.1 dX11_outputAt_15 (by decide) ?_
    refine lv_goto (tgt := 20) S.1 S.2.1 dX11_outputAt_16 (by decide) ?_
    exact hB20  x1 (some o) (nI 0) μ H locs ls hM hS (lv_sub hl [0, 1] rfl) h
set_option maxRecDepth 100000 in
set_option maxHeartbeats 4000000 in
theorem c_X11_type {l : Launch} {G : mgT} {μ : mmT} {o : Nat} {x1 : Int32} {Q : Int32 → mmT → Prop} (h : w_X11_type G μ o x1 Q) : MC G l yX11_type cX11_type 2 (some .int) { frames := 1, cells := 0, slots := 0, locals := 22 } [.ref o, .int x1] μ (pI Q) := by
  refine mz_MC (by decide +kernel) (Nat.le_of_ble_eq_true rfl) (fun p e s m args below meth c S hG hr hlk hnm => ?_)
  have hB30 : ∀ (x1 : Int32) (s0 : Option Nat) (s1 : Int32) (μ : mmT) (H : Heap) (locs : List Loc) (ls : Array Slot), Mm G μ H → va_S (Ah G) s.heap H locs → lv_has ls 2 [(0, .ref o), (1, .int x1)] → w_X11_type_b30 G o Q  x1 s0 s1 μ → W p l e { frames := 1, cells := 0, slots := 0, locals := 22 } s m args below meth c H locs 0 0 (MQ below (mQ G (pI Q)) args s 0 0 (Ah G)) (F0 m 30 ls [.int s1, va_rf s0]) := by
    intro  x1 s0 s1 μ H locs ls hM hS hl h
    unfold w_X11_type_b30 at h
    obtain ⟨a5, e6, h⟩ := h
    refine mz_o1 e6 ?_
    obtain ⟨k7, h⟩ := h
    refine mz_puti S hG hM hS cf_10 fd_320 tw_1482 dX11_type_30 k7 rfl rfl (fun H locs hM hS hz9 => ?_)
    refine lv_aload_n S.1 S.2.1 dX11_type_33 rfl (lv_at hl 0 rfl) ?_
    obtain ⟨k8, h⟩ := h
    refine mz_geti S hG hM cf_10 fd_320 tw_1482 dX11_type_34 k8 ?_
    refine lv_if_le (tgt := 42) S.1 S.2.1 dX11_type_37 (by decide) (fun c9 => ?_) (fun c9 => ?_)
    · have h := h.1 c9
      refine lv_aload_n S.1 S.2.1 dX11_type_42 rfl (lv_at hl 0 rfl) ?_
      refine mz_getr S hG hM cf_10 fd_328 tw_1490 dX11_type_43 k8 ?_
      refine lv_aload_n S.1 S.2.1 dX11_type_46 rfl (lv_at hl 0 rfl) ?_
      refine mz_geti S hG hM cf_10 fd_331 tw_1493 dX11_type_47 k8 ?_
      refine lv_iload_n S.1 S.2.1 dX11_type_50 rfl (lv_at hl 1 rfl) ?_
      obtain ⟨a10, e11, h⟩ := h
      refine mz_o2 e11 ?_
      obtain ⟨k12, h⟩ := h
      obtain ⟨b13, h⟩ := h
      refine mz_iast S hG hM hS dX11_type_51 k12 b13 (fun H locs hM hS hz9 => ?_)
      refine lv_aload_n S.1 S.2.1 dX11_type_52 rfl (lv_at hl 0 rfl) ?_
      refine lv_dup S.1 S.2.1 dX11_type_53 rfl ?_
      refine mz_geti S hG hM cf_10 fd_331 tw_1493 dX11_type_54 k8 ?_
      refine lv_iconst (v := (nI 1)) S.1 S.2.1 dX11_type_57 (by decide) ?_
      refine lv_iadd S.1 S.2.1 dX11_type_58 ?_
      refine mz_puti S hG hM hS cf_10 fd_331 tw_1493 dX11_type_59 k8 rfl rfl (fun H locs hM hS hz9 => ?_)
      refine lv_aload_n S.1 S.2.1 dX11_type_62 rfl (lv_at hl 0 rfl) ?_
      refine mz_geti S hG hM cf_10 fd_331 tw_1493 dX11_type_63 k8 ?_
      exact mz_iret S hr hlk hM hS rfl (Nat.le_of_ble_eq_true rfl) (Nat.le_of_ble_eq_true rfl) dX11_type_66 ⟨_, rfl, h⟩
    · have h := h.2 c9
      refine lv_iconst (v := (nI 0)) S.1 S.2.1 dX11_type_40 (by decide) ?_
      exact mz_iret S hr hlk hM hS rfl (Nat.le_of_ble_eq_true rfl) (Nat.le_of_ble_eq_true rfl) dX11_type_41 ⟨_, rfl, h⟩
  intro H locs ls hM hS hl
  have hl : lv_has ls 2 [(0, .ref o), (1, .int x1)] := hl
  unfold w_X11_type at h
  refine lv_aload_n S.1 S.2.1 dX11_type_0 rfl (lv_at hl 0 rfl) ?_
  refine lv_iload_n S.1 S.2.1 dX11_type_1 rfl (lv_at hl 1 rfl) ?_
  refine lv_bipush (v := (nI 32)) S.1 S.2.1 dX11_type_2 (by decide) ?_
  refine lv_bipush (v := (nI 126)) S.1 S.2.1 dX11_type_4 (by decide) ?_
  refine mz_S S hG hM hS (As := [.int x1, .int (nI 32), .int (nI 126)]) (rest := [.ref o]) (c_X11_in h) yf_X11_in tw_1559 tw_1560 ⟨Nat.le_of_ble_eq_true rfl, Nat.le_of_ble_eq_true rfl⟩ ⟨(Nat.le_of_ble_eq_true rfl), (Nat.le_of_ble_eq_true rfl)⟩ rfl hl.1 rfl (Nat.le_of_ble_eq_true rfl) dX11_type_6 (fun v9 μ9 H locs hp hM hS => ?_)
  obtain ⟨u1, rfl, e9, h⟩ := hp
  rw [e9] at hM
  refine W.cs (cells' := 0) (slots' := 0) rfl rfl ?_
  refine lv_if_ne (tgt := 16) S.1 S.2.1 dX11_type_9 (by decide) (fun c2 => ?_) (fun c2 => ?_)
  · have h := h.1 c2
    refine lv_aload_n S.1 S.2.1 dX11_type_16 rfl (lv_at hl 0 rfl) ?_
    obtain ⟨k3, h⟩ := h
    refine mz_geti S hG hM cf_10 fd_331 tw_1493 dX11_type_17 k3 ?_
    refine lv_bipush (v := (nI 60)) S.1 S.2.1 dX11_type_20 (by decide) ?_
    refine lv_icmp_ne (tgt := 29) S.1 S.2.1 dX11_type_22 (by decide) (fun c4 => ?_) (fun c4 => ?_)
    · have h := h.1 c4
      refine lv_iconst (v := (nI 0)) S.1 S.2.1 dX11_type_29 (by decide) ?_
      exact hB30  x1 (some o) (nI 0) μ H locs ls hM hS (lv_sub hl [0, 1] rfl) h
    · have h := h.2 c4
      refine lv_iconst (v := (nI 2)) S.1 S.2.1 dX11_type_25 (by decide) ?_
      refine lv_goto (tgt := 30) S.1 S.2.1 dX11_type_26 (by decide) ?_
      exact hB30  x1 (some o) (nI 2) μ H locs ls hM hS (lv_sub hl [0, 1] rfl) h
  · have h := h.2 c2
    refine lv_iconst (v := (nI 1)) S.1 S.2.1 dX11_type_12 (by decide) ?_
    refine lv_goto (tgt := 30) S.1 S.2.1 dX11_type_13 (by decide) ?_
    exact hB30  x1 (some o) (nI 1) μ H locs ls hM hS (lv_sub hl [0, 1] rfl) h
set_option maxRecDepth 100000 in
set_option maxHeartbeats 4000000 in
theorem c_X11_here {l : Launch} {G : mgT} {μ : mmT} {o : Nat} {x1 : Int32} {Q : Int32 → Prop} (h : w_X11_here G μ o x1 Q) : MC G l yX11_here cX11_here 2 (some .int) { frames := 0, cells := 0, slots := 0, locals := 0 } [.ref o, .int x1] μ (pI (fun r μ' => μ' = μ ∧ Q r)) := by
  refine mz_MC (by decide +kernel) (Nat.le_of_ble_eq_true rfl) (fun p e s m args below meth c S hG hr hlk hnm => ?_)
  have hB28 : ∀ (s0 : Int32) (H : Heap) (locs : List Loc) (ls : Array Slot), Mm G μ H → va_S (Ah G) s.heap H locs → lv_has ls 2 [(0, .ref o)] → w_X11_here_b28 G μ o Q  s0 → W p l e { frames := 0, cells := 0, slots := 0, locals := 0 } s m args below meth c H locs 0 0 (MQ below (mQ G (pI (fun r μ' => μ' = μ ∧ Q r))) args s 0 0 (Ah G)) (F0 m 28 ls [.int s0]) := by
    intro  s0 H locs ls hM hS hl h
    unfold w_X11_here_b28 at h
    exact mz_iret S hr hlk hM hS rfl (Nat.le_of_ble_eq_true rfl) (Nat.le_of_ble_eq_true rfl) dX11_here_28 ⟨_, rfl, rfl, h⟩
  intro H locs ls hM hS hl
  have hl : lv_has ls 2 [(0, .ref o), (1, .int x1)] := hl
  unfold w_X11_here at h
  refine lv_aload_n S.1 S.2.1 dX11_here_0 rfl (lv_at hl 0 rfl) ?_
  obtain ⟨k1, h⟩ := h
  refine mz_geti S hG hM cf_10 fd_336 tw_1498 dX11_here_1 k1 ?_
  refine lv_iload_n S.1 S.2.1 dX11_here_4 rfl (lv_at hl 1 rfl) ?_
  refine lv_iadd S.1 S.2.1 dX11_here_5 ?_
  refine lv_aload_n S.1 S.2.1 dX11_here_6 rfl (lv_at hl 0 rfl) ?_
  refine mz_geti S hG hM cf_10 fd_337 tw_1499 dX11_here_7 k1 ?_
  refine lv_icmp_ge (tgt := 27) S.1 S.2.1 dX11_here_10 (by decide) (fun c2 => ?_) (fun c2 => ?_)
  · have h := h.1 c2
    refine lv_iconst (v := (-1)) S.1 S.2.1 dX11_here_27 (by decide) ?_
    exact hB28  (-1) H locs ls hM hS (lv_sub hl [0] rfl) h
  · have h := h.2 c2
    refine lv_aload_n S.1 S.2.1 dX11_here_13 rfl (lv_at hl 0 rfl) ?_
    refine mz_getr S hG hM cf_10 fd_328 tw_1490 dX11_here_14 k1 ?_
    refine lv_aload_n S.1 S.2.1 dX11_here_17 rfl (lv_at hl 0 rfl) ?_
    refine mz_geti S hG hM cf_10 fd_336 tw_1498 dX11_here_18 k1 ?_
    refine lv_iload_n S.1 S.2.1 dX11_here_21 rfl (lv_at hl 1 rfl) ?_
    refine lv_iadd S.1 S.2.1 dX11_here_22 ?_
    obtain ⟨a3, e4, h⟩ := h
    refine mz_o1 e4 ?_
    obtain ⟨k5, h⟩ := h
    obtain ⟨b6, h⟩ := h
    refine mz_iald S hG hM dX11_here_23 k5 b6 ?_
    refine lv_goto (tgt := 28) S.1 S.2.1 dX11_here_24 (by decide) ?_
    exact hB28  (mA μ a3 ((mI μ 336 o) + x1).toNatClampNeg) H locs ls hM hS (lv_sub hl [0] rfl) h
set_option maxRecDepth 100000 in
set_option maxHeartbeats 4000000 in
theorem c_X11_says {l : Launch} {G : mgT} {μ : mmT} {o : Nat} {r1 : Option Nat} {Q : mmT → Prop} (h : w_X11_says G μ o r1 Q) : MC G l yX11_says cX11_says 3 none { frames := 4, cells := 0, slots := 0, locals := 85 } [.ref o, va_rf r1] μ (pV Q) := by
  refine mz_MC (by decide +kernel) (by simp [lg_sl, mz_cat, mz_cr, mz_ci, mz_cl, mz_cf, mz_cd, mz_cn]) (fun p e s m args below meth c S hG hr hlk hnm => ?_)
  have hB66 : ∀ (μ : mmT) (H : Heap) (locs : List Loc) (ls : Array Slot), Mm G μ H → va_S (Ah G) s.heap H locs → lv_has ls 3 [(0, .ref o)] → w_X11_says_b66 G o Q  μ → W p l e { frames := 4, cells := 0, slots := 0, locals := 85 } s m args below meth c H locs 0 0 (MQ below (mQ G (pV Q)) args s 0 0 (Ah G)) (F0 m 66 ls []) := by
    intro  μ H locs ls hM hS hl h
    unfold w_X11_says_b66 at h
    exact mz_vret S hr hlk hM hS (Nat.le_of_ble_eq_true rfl) (Nat.le_of_ble_eq_true rfl) dX11_says_66 ⟨rfl, h⟩
  have hB56 : ∀ (K2 : Option Nat → Int32 → mmT → Prop) (kK2 : ∀ (r1 : Option Nat) (x2 : Int32) (μ : mmT) (H : Heap) (locs : List Loc) (ls : Array Slot), Mm G μ H → va_S (Ah G) s.heap H locs → lv_has ls 3 [(0, .ref o), (1, va_rf r1), (2, .int x2)] → K2 r1 x2 μ → W p l e { frames := 4, cells := 0, slots := 0, locals := 85 } s m args below meth c H locs 0 0 (MQ below (mQ G (pV Q)) args s 0 0 (Ah G)) (F0 m 2 ls [])) (r1 : Option Nat) (x2 : Int32) (s0 : Option Nat) (s1 : Int32) (s2 : Int32) (μ : mmT) (H : Heap) (locs : List Loc) (ls : Array Slot), Mm G μ H → va_S (Ah G) s.heap H locs → lv_has ls 3 [(0, .ref o), (1, va_rf r1), (2, .int x2)] → w_X11_says_b56 G o Q K2 r1 x2 s0 s1 s2 μ → W p l e { frames := 4, cells := 0, slots := 0, locals := 85 } s m args below meth c H locs 0 0 (MQ below (mQ G (pV Q)) args s 0 0 (Ah G)) (F0 m 56 ls [.int s2, .int s1, va_rf s0]) := by
    intro K2 kK2 r1 x2 s0 s1 s2 μ H locs ls hM hS hl h
    unfold w_X11_says_b56 at h
    refine lv_iadd S.1 S.2.1 dX11_says_56 ?_
    obtain ⟨a19, e20, h⟩ := h
    refine mz_o1 e20 ?_
    obtain ⟨k21, h⟩ := h
    refine mz_puti S hG hM hS cf_10 fd_336 tw_1498 dX11_says_57 k21 rfl rfl (fun H locs hM hS hz9 => ?_)
    refine lv_iinc (v := (x2 + nI 1)) (lv' := [(2, .int (x2 + nI 1)), (0, .ref o), (1, va_rf r1)]) S.1 S.2.1 dX11_says_60 hl (k := 2) rfl rfl (by decide) (by simp [List.filter, mz_cat]) (fun ls hl => ?_)
    refine lv_goto (tgt := 2) S.1 S.2.1 dX11_says_63 (by decide) ?_
    exact kK2 r1 (x2 + nI 1) (sI μ 336 a19 (s1 + s2)) H locs ls hM hS (lv_sub hl [1, 2, 0] rfl) h
  have hB36 : ∀ (K2 : Option Nat → Int32 → mmT → Prop) (kK2 : ∀ (r1 : Option Nat) (x2 : Int32) (μ : mmT) (H : Heap) (locs : List Loc) (ls : Array Slot), Mm G μ H → va_S (Ah G) s.heap H locs → lv_has ls 3 [(0, .ref o), (1, va_rf r1), (2, .int x2)] → K2 r1 x2 μ → W p l e { frames := 4, cells := 0, slots := 0, locals := 85 } s m args below meth c H locs 0 0 (MQ below (mQ G (pV Q)) args s 0 0 (Ah G)) (F0 m 2 ls [])) (r1 : Option Nat) (x2 : Int32) (s0 : Option Nat) (s1 : Int32) (μ : mmT) (H : Heap) (locs : List Loc) (ls : Array Slot), Mm G μ H → va_S (Ah G) s.heap H locs → lv_has ls 3 [(0, .ref o), (1, va_rf r1), (2, .int x2)] → w_X11_says_b36 G o Q K2 r1 x2 s0 s1 μ → W p l e { frames := 4, cells := 0, slots := 0, locals := 85 } s m args below meth c H locs 0 0 (MQ below (mQ G (pV Q)) args s 0 0 (Ah G)) (F0 m 36 ls [.int s1, va_rf s0]) := by
    intro K2 kK2 r1 x2 s0 s1 μ H locs ls hM hS hl h
    unfold w_X11_says_b36 at h
    obtain ⟨a13, e14, h⟩ := h
    refine mz_o1 e14 ?_
    obtain ⟨k15, h⟩ := h
    obtain ⟨f16, h⟩ := h
    refine mz_puti S hG hM hS cf_10 fd_339 tw_1501 dX11_says_36 k15 (mz_nZ f16) (mz_fZ f16) (fun H locs hM hS hz9 => ?_)
    refine lv_aload_n S.1 S.2.1 dX11_says_39 rfl (lv_at hl 0 rfl) ?_
    refine lv_dup S.1 S.2.1 dX11_says_40 rfl ?_
    obtain ⟨k17, h⟩ := h
    refine mz_geti S hG hM cf_10 fd_336 tw_1498 dX11_says_41 k17 ?_
    refine lv_aload_n S.1 S.2.1 dX11_says_44 rfl (lv_at hl 0 rfl) ?_
    refine mz_geti S hG hM cf_10 fd_339 tw_1501 dX11_says_45 k17 ?_
    refine lv_if_eq (tgt := 55) S.1 S.2.1 dX11_says_48 (by decide) (fun c18 => ?_) (fun c18 => ?_)
    · have h := h.1 c18
      refine lv_iconst (v := (nI 1)) S.1 S.2.1 dX11_says_55 (by decide) ?_
      exact hB56 K2 kK2 r1 x2 (some o) (mI (sI μ 339 a13 s1) 336 o) (nI 1) (sI μ 339 a13 s1) H locs ls hM hS (lv_sub hl [0, 1, 2] rfl) h
    · have h := h.2 c18
      refine lv_iconst (v := (nI 0)) S.1 S.2.1 dX11_says_51 (by decide) ?_
      refine lv_goto (tgt := 56) S.1 S.2.1 dX11_says_52 (by decide) ?_
      exact hB56 K2 kK2 r1 x2 (some o) (mI (sI μ 339 a13 s1) 336 o) (nI 0) (sI μ 339 a13 s1) H locs ls hM hS (lv_sub hl [0, 1, 2] rfl) h
  have hB2 : ∀ (n : Nat) (r1 : Option Nat) (x2 : Int32) (μ : mmT) (H : Heap) (locs : List Loc) (ls : Array Slot), Mm G μ H → va_S (Ah G) s.heap H locs → lv_has ls 3 [(0, .ref o), (1, va_rf r1), (2, .int x2)] → w_X11_says_l2 G o Q  n r1 x2 μ → W p l e { frames := 4, cells := 0, slots := 0, locals := 85 } s m args below meth c H locs 0 0 (MQ below (mQ G (pV Q)) args s 0 0 (Ah G)) (F0 m 2 ls []) := by
    intro  n
    induction n with
    | zero =>
      intro r1 x2 μ H locs ls hM hS hl h
      exact False.elim h
    | succ n ih =>
      intro r1 x2 μ H locs ls hM hS hl h
      have h : w_X11_says_b2 G o Q  (w_X11_says_l2 G o Q  n) r1 x2 μ := h
      unfold w_X11_says_b2 at h
      refine lv_iload_n S.1 S.2.1 dX11_says_2 rfl (lv_at hl 2 rfl) ?_
      refine mz_aload_n (x := r1) S.1 S.2.1 dX11_says_3 rfl (lv_at hl 1 rfl) ?_
      obtain ⟨a1, e2, h⟩ := h
      refine mz_o0 e2 ?_
      obtain ⟨j3, q4, l5, h⟩ := h
      refine mz_V0 S hG hM hS (mz_recvO (by rw [q4]; exact (hG.txt j3 l5).1) hS) (As := []) (rest := [.int x2]) (c_J0_length_8abf5 h) yf_J0_length_8abf5 tw_1932 tw_552 (S.2.2.2.2 _ tw_553) ⟨Nat.le_of_ble_eq_true rfl, Nat.le_of_ble_eq_true rfl⟩ ⟨(Nat.le_of_ble_eq_true rfl), (Nat.le_of_ble_eq_true rfl)⟩ rfl hl.1 rfl (Nat.le_of_ble_eq_true rfl) dX11_says_4 (fun v9 μ9 H locs hp hM hS => ?_)
      obtain ⟨u6, rfl, e9, h⟩ := hp
      rw [e9] at hM
      refine W.cs (cells' := 0) (slots' := 0) rfl rfl ?_
      refine lv_icmp_ge (tgt := 66) S.1 S.2.1 dX11_says_7 (by decide) (fun c7 => ?_) (fun c7 => ?_)
      · have h := h.1 c7
        exact hB66  μ H locs ls hM hS (lv_sub hl [0] rfl) h
      · have h := h.2 c7
        refine lv_aload_n S.1 S.2.1 dX11_says_10 rfl (lv_at hl 0 rfl) ?_
        obtain ⟨k8, h⟩ := h
        refine mz_geti S hG hM cf_10 fd_339 tw_1501 dX11_says_11 k8 ?_
        refine lv_if_ne (tgt := 66) S.1 S.2.1 dX11_says_14 (by decide) (fun c9 => ?_) (fun c9 => ?_)
        · have h := h.1 c9
          exact hB66  μ H locs ls hM hS (lv_sub hl [0] rfl) h
        · have h := h.2 c9
          refine lv_aload_n S.1 S.2.1 dX11_says_17 rfl (lv_at hl 0 rfl) ?_
          refine lv_aload_n S.1 S.2.1 dX11_says_18 rfl (lv_at hl 0 rfl) ?_
          refine lv_iconst (v := (nI 0)) S.1 S.2.1 dX11_says_19 (by decide) ?_
          refine mz_V S hG hM hS cf_10 k8 (As := [.int (nI 0)]) (rest := [.ref o]) (c_X11_here h) yf_X11_here tw_1919 tw_1921 ts_58 ⟨Nat.le_of_ble_eq_true rfl, Nat.le_of_ble_eq_true rfl⟩ ⟨(Nat.le_of_ble_eq_true rfl), (Nat.le_of_ble_eq_true rfl)⟩ rfl hl.1 rfl (Nat.le_of_ble_eq_true rfl) dX11_says_20 (fun v9 μ9 H locs hp hM hS => ?_)
          obtain ⟨u10, rfl, e9, h⟩ := hp
          rw [e9] at hM
          refine W.cs (cells' := 0) (slots' := 0) rfl rfl ?_
          refine mz_aload_n (x := r1) S.1 S.2.1 dX11_says_23 rfl (lv_at hl 1 rfl) ?_
          refine lv_iload_n S.1 S.2.1 dX11_says_24 rfl (lv_at hl 2 rfl) ?_
          refine mz_o1 e2 ?_
          refine mz_V0 S hG hM hS (mz_recvO (by rw [q4]; exact (hG.txt j3 l5).1) hS) (As := [.int x2]) (rest := [.int u10, .ref o]) (c_J0_charAt_5068e h) yf_J0_charAt_5068e tw_1933 tw_1391 (S.2.2.2.2 _ tw_1392) ⟨Nat.le_of_ble_eq_true rfl, Nat.le_of_ble_eq_true rfl⟩ ⟨(Nat.le_of_ble_eq_true rfl), (Nat.le_of_ble_eq_true rfl)⟩ rfl hl.1 rfl (Nat.le_of_ble_eq_true rfl) dX11_says_25 (fun v9 μ9 H locs hp hM hS => ?_)
          obtain ⟨u11, rfl, e9, h⟩ := hp
          rw [e9] at hM
          refine W.cs (cells' := 0) (slots' := 0) rfl rfl ?_
          refine lv_icmp_eq (tgt := 35) S.1 S.2.1 dX11_says_28 (by decide) (fun c12 => ?_) (fun c12 => ?_)
          · have h := h.1 c12
            refine lv_iconst (v := (nI 0)) S.1 S.2.1 dX11_says_35 (by decide) ?_
            exact hB36 (w_X11_says_l2 G o Q  n) ih r1 x2 (some o) (nI 0) μ H locs ls hM hS (lv_sub hl [0, 1, 2] rfl) h
          · have h := h.2 c12
            refine lv_iconst (v := (nI 1)) S.1 S.2.1 dX11_says_31 (by decide) ?_
            refine lv_goto (tgt := 36) S.1 S.2.1 dX11_says_32 (by decide) ?_
            exact hB36 (w_X11_says_l2 G o Q  n) ih r1 x2 (some o) (nI 1) μ H locs ls hM hS (lv_sub hl [0, 1, 2] rfl) h
  intro H locs ls hM hS hl
  have hl : lv_has ls 3 [(0, .ref o), (1, va_rf r1)] := by simpa [lv_args, mz_cat, mz_cr, mz_ci, mz_cl, mz_cf, mz_cd, mz_cn] using hl
  unfold w_X11_says at h
  refine lv_iconst (v := (nI 0)) S.1 S.2.1 dX11_says_0 (by decide) ?_
  refine lv_istore_n (i := 2) (lv' := [(2, .int (nI 0)), (0, .ref o), (1, va_rf r1)]) S.1 S.2.1 dX11_says_1 rfl hl (by decide) (by simp [List.filter, mz_cat]) (fun ls hl => ?_)
  obtain ⟨n9, h⟩ := h
  exact hB2  n9 r1 (nI 0) μ H locs ls hM hS (lv_sub hl [1, 2, 0] rfl) h
set_option maxRecDepth 100000 in
set_option maxHeartbeats 4000000 in
theorem c_X11_number {l : Launch} {G : mgT} {μ : mmT} {o : Nat} {x1 : Int32} {x2 : Int32} {Q : mmT → Prop} (h : w_X11_number G μ o x1 x2 Q) : MC G l yX11_number cX11_number 5 none { frames := 5, cells := 0, slots := 0, locals := 107 } [.ref o, .int x1, .int x2] μ (pV Q) := by
  refine mz_MC (by decide +kernel) (Nat.le_of_ble_eq_true rfl) (fun p e s m args below meth c S hG hr hlk hnm => ?_)
  have hB87 : ∀ (x1 : Int32) (x3 : Int32) (s0 : Option Nat) (s1 : Int32) (μ : mmT) (H : Heap) (locs : List Loc) (ls : Array Slot), Mm G μ H → va_S (Ah G) s.heap H locs → lv_has ls 5 [(0, .ref o), (1, .int x1), (3, .int x3)] → w_X11_number_b87 G o Q  x1 x3 s0 s1 μ → W p l e { frames := 5, cells := 0, slots := 0, locals := 107 } s m args below meth c H locs 0 0 (MQ below (mQ G (pV Q)) args s 0 0 (Ah G)) (F0 m 87 ls [.int s1, va_rf s0]) := by
    intro  x1 x3 s0 s1 μ H locs ls hM hS hl h
    unfold w_X11_number_b87 at h
    obtain ⟨a7, e8, h⟩ := h
    refine mz_o1 e8 ?_
    obtain ⟨k9, h⟩ := h
    obtain ⟨f10, h⟩ := h
    refine mz_puti S hG hM hS cf_10 fd_339 tw_1501 dX11_number_87 k9 (mz_nZ f10) (mz_fZ f10) (fun H locs hM hS hz9 => ?_)
    refine lv_aload_n S.1 S.2.1 dX11_number_90 rfl (lv_at hl 0 rfl) ?_
    obtain ⟨k11, h⟩ := h
    refine mz_getr S hG hM cf_10 fd_329 tw_1491 dX11_number_91 k11 ?_
    refine lv_iconst (v := (nI 3)) S.1 S.2.1 dX11_number_94 (by decide) ?_
    refine lv_aload_n S.1 S.2.1 dX11_number_95 rfl (lv_at hl 0 rfl) ?_
    refine mz_geti S hG hM cf_10 fd_338 tw_1500 dX11_number_96 k11 ?_
    refine lv_imul S.1 S.2.1 dX11_number_99 ?_
    refine lv_iload_n S.1 S.2.1 dX11_number_100 rfl (lv_at hl 1 rfl) ?_
    refine lv_iadd S.1 S.2.1 dX11_number_101 ?_
    refine lv_iload_n S.1 S.2.1 dX11_number_102 rfl (lv_at hl 2 rfl) ?_
    obtain ⟨a12, e13, h⟩ := h
    refine mz_o2 e13 ?_
    obtain ⟨k14, h⟩ := h
    obtain ⟨b15, h⟩ := h
    refine mz_iast S hG hM hS dX11_number_103 k14 b15 (fun H locs hM hS hz9 => ?_)
    exact mz_vret S hr hlk hM hS (Nat.le_of_ble_eq_true rfl) (Nat.le_of_ble_eq_true rfl) dX11_number_104 ⟨rfl, h⟩
  have hB82 : ∀ (x1 : Int32) (x3 : Int32) (s0 : Option Nat) (μ : mmT) (H : Heap) (locs : List Loc) (ls : Array Slot), Mm G μ H → va_S (Ah G) s.heap H locs → lv_has ls 5 [(0, .ref o), (1, .int x1), (3, .int x3)] → w_X11_number_b82 G o Q  x1 x3 s0 μ → W p l e { frames := 5, cells := 0, slots := 0, locals := 107 } s m args below meth c H locs 0 0 (MQ below (mQ G (pV Q)) args s 0 0 (Ah G)) (F0 m 82 ls [va_rf s0]) := by
    intro  x1 x3 s0 μ H locs ls hM hS hl h
    unfold w_X11_number_b82 at h
    refine lv_iconst (v := (nI 1)) S.1 S.2.1 dX11_number_82 (by decide) ?_
    refine lv_goto (tgt := 87) S.1 S.2.1 dX11_number_83 (by decide) ?_
    exact hB87  x1 x3 s0 (nI 1) μ H locs ls hM hS (lv_sub hl [0, 1, 2] rfl) h
  have hB69 : ∀ (x1 : Int32) (x3 : Int32) (x4 : Int32) (μ : mmT) (H : Heap) (locs : List Loc) (ls : Array Slot), Mm G μ H → va_S (Ah G) s.heap H locs → lv_has ls 5 [(0, .ref o), (1, .int x1), (3, .int x3), (4, .int x4)] → w_X11_number_b69 G o Q  x1 x3 x4 μ → W p l e { frames := 5, cells := 0, slots := 0, locals := 107 } s m args below meth c H locs 0 0 (MQ below (mQ G (pV Q)) args s 0 0 (Ah G)) (F0 m 69 ls []) := by
    intro  x1 x3 x4 μ H locs ls hM hS hl h
    unfold w_X11_number_b69 at h
    refine lv_aload_n S.1 S.2.1 dX11_number_69 rfl (lv_at hl 0 rfl) ?_
    refine lv_aload_n S.1 S.2.1 dX11_number_70 rfl (lv_at hl 0 rfl) ?_
    obtain ⟨k5, h⟩ := h
    refine mz_geti S hG hM cf_10 fd_339 tw_1501 dX11_number_71 k5 ?_
    refine lv_if_ne (tgt := 82) S.1 S.2.1 dX11_number_74 (by decide) (fun c6 => ?_) (fun c6 => ?_)
    · have h := h.1 c6
      exact hB82  x1 x3 (some o) μ H locs ls hM hS (lv_sub hl [0, 1, 2] rfl) h
    · have h := h.2 c6
      refine lv_iload S.1 S.2.1 dX11_number_77 (lv_at hl 3 rfl) ?_
      refine lv_if_ne (tgt := 86) S.1 S.2.1 dX11_number_79 (by decide) (fun c16 => ?_) (fun c16 => ?_)
      · have h := h.1 c16
        refine lv_iconst (v := (nI 0)) S.1 S.2.1 dX11_number_86 (by decide) ?_
        exact hB87  x1 x3 (some o) (nI 0) μ H locs ls hM hS (lv_sub hl [0, 1, 2] rfl) h
      · have h := h.2 c16
        exact hB82  x1 x3 (some o) μ H locs ls hM hS (lv_sub hl [0, 1, 2] rfl) h
  have hB11 : ∀ (n : Nat) (x1 : Int32) (x2 : Int32) (x3 : Int32) (x4 : Int32) (μ : mmT) (H : Heap) (locs : List Loc) (ls : Array Slot), Mm G μ H → va_S (Ah G) s.heap H locs → lv_has ls 5 [(0, .ref o), (1, .int x1), (2, .int x2), (3, .int x3), (4, .int x4)] → w_X11_number_l11 G o Q  n x1 x2 x3 x4 μ → W p l e { frames := 5, cells := 0, slots := 0, locals := 107 } s m args below meth c H locs 0 0 (MQ below (mQ G (pV Q)) args s 0 0 (Ah G)) (F0 m 11 ls []) := by
    intro  n
    induction n with
    | zero =>
      intro x1 x2 x3 x4 μ H locs ls hM hS hl h
      exact False.elim h
    | succ n ih =>
      intro x1 x2 x3 x4 μ H locs ls hM hS hl h
      have h : w_X11_number_b11 G o Q  (w_X11_number_l11 G o Q  n) x1 x2 x3 x4 μ := h
      unfold w_X11_number_b11 at h
      refine lv_aload_n S.1 S.2.1 dX11_number_11 rfl (lv_at hl 0 rfl) ?_
      obtain ⟨k3, h⟩ := h
      refine mz_geti S hG hM cf_10 fd_339 tw_1501 dX11_number_12 k3 ?_
      refine lv_if_ne (tgt := 69) S.1 S.2.1 dX11_number_15 (by decide) (fun c4 => ?_) (fun c4 => ?_)
      · have h := h.1 c4
        exact hB69  x1 x3 x4 μ H locs ls hM hS (lv_sub hl [0, 1, 3, 4] rfl) h
      · have h := h.2 c4
        refine lv_iload S.1 S.2.1 dX11_number_18 (lv_at hl 4 rfl) ?_
        refine lv_iload_n S.1 S.2.1 dX11_number_20 rfl (lv_at hl 2 rfl) ?_
        refine lv_icmp_ge (tgt := 69) S.1 S.2.1 dX11_number_21 (by decide) (fun c17 => ?_) (fun c17 => ?_)
        · have h := h.1 c17
          exact hB69  x1 x3 x4 μ H locs ls hM hS (lv_sub hl [0, 1, 3, 4] rfl) h
        · have h := h.2 c17
          refine lv_aload_n S.1 S.2.1 dX11_number_24 rfl (lv_at hl 0 rfl) ?_
          refine lv_iconst (v := (nI 0)) S.1 S.2.1 dX11_number_25 (by decide) ?_
          refine mz_V S hG hM hS cf_10 k3 (As := [.int (nI 0)]) (rest := []) (c_X11_here h) yf_X11_here tw_1919 tw_1921 ts_58 ⟨Nat.le_of_ble_eq_true rfl, Nat.le_of_ble_eq_true rfl⟩ ⟨(Nat.le_of_ble_eq_true rfl), (Nat.le_of_ble_eq_true rfl)⟩ rfl hl.1 rfl (Nat.le_of_ble_eq_true rfl) dX11_number_26 (fun v9 μ9 H locs hp hM hS => ?_)
          obtain ⟨u18, rfl, e9, h⟩ := hp
          rw [e9] at hM
          refine W.cs (cells' := 0) (slots' := 0) rfl rfl ?_
          refine lv_bipush (v := (nI 48)) S.1 S.2.1 dX11_number_29 (by decide) ?_
          refine lv_bipush (v := (nI 57)) S.1 S.2.1 dX11_number_31 (by decide) ?_
          refine mz_S S hG hM hS (As := [.int u18, .int (nI 48), .int (nI 57)]) (rest := []) (c_X11_in h) yf_X11_in tw_1559 tw_1560 ⟨Nat.le_of_ble_eq_true rfl, Nat.le_of_ble_eq_true rfl⟩ ⟨(Nat.le_of_ble_eq_true rfl), (Nat.le_of_ble_eq_true rfl)⟩ rfl hl.1 rfl (Nat.le_of_ble_eq_true rfl) dX11_number_33 (fun v9 μ9 H locs hp hM hS => ?_)
          obtain ⟨u19, rfl, e9, h⟩ := hp
          rw [e9] at hM
          refine W.cs (cells' := 0) (slots' := 0) rfl rfl ?_
          refine lv_if_eq (tgt := 69) S.1 S.2.1 dX11_number_36 (by decide) (fun c20 => ?_) (fun c20 => ?_)
          · have h := h.1 c20
            exact hB69  x1 x3 x4 μ H locs ls hM hS (lv_sub hl [0, 1, 3, 4] rfl) h
          · have h := h.2 c20
            refine lv_bipush (v := (nI 10)) S.1 S.2.1 dX11_number_39 (by decide) ?_
            refine lv_iload_n S.1 S.2.1 dX11_number_41 rfl (lv_at hl 3 rfl) ?_
            refine lv_imul S.1 S.2.1 dX11_number_42 ?_
            refine lv_aload_n S.1 S.2.1 dX11_number_43 rfl (lv_at hl 0 rfl) ?_
            refine lv_iconst (v := (nI 0)) S.1 S.2.1 dX11_number_44 (by decide) ?_
            refine mz_V S hG hM hS cf_10 k3 (As := [.int (nI 0)]) (rest := [.int ((nI 10) * x3)]) (c_X11_here h) yf_X11_here tw_1919 tw_1921 ts_58 ⟨Nat.le_of_ble_eq_true rfl, Nat.le_of_ble_eq_true rfl⟩ ⟨(Nat.le_of_ble_eq_true rfl), (Nat.le_of_ble_eq_true rfl)⟩ rfl hl.1 rfl (Nat.le_of_ble_eq_true rfl) dX11_number_45 (fun v9 μ9 H locs hp hM hS => ?_)
            obtain ⟨u21, rfl, e9, h⟩ := hp
            rw [e9] at hM
            refine W.cs (cells' := 0) (slots' := 0) rfl rfl ?_
            refine lv_iadd S.1 S.2.1 dX11_number_48 ?_
            refine lv_bipush (v := (nI 48)) S.1 S.2.1 dX11_number_49 (by decide) ?_
            refine lv_isub S.1 S.2.1 dX11_number_51 ?_
            refine lv_istore_n (lv' := [(3, .int ((((nI 10) * x3) + u21) - (nI 48))), (0, .ref o), (1, .int x1), (2, .int x2), (4, .int x4)]) S.1 S.2.1 dX11_number_52 rfl hl (by decide) rfl (fun ls hl => ?_)
            refine lv_aload_n S.1 S.2.1 dX11_number_53 rfl (lv_at hl 1 rfl) ?_
            refine lv_dup S.1 S.2.1 dX11_number_54 rfl ?_
            refine mz_geti S hG hM cf_10 fd_336 tw_1498 dX11_number_55 k3 ?_
            refine lv_iconst (v := (nI 1)) S.1 S.2.1 dX11_number_58 (by decide) ?_
            refine lv_iadd S.1 S.2.1 dX11_number_59 ?_
            refine mz_puti S hG hM hS cf_10 fd_336 tw_1498 dX11_number_60 k3 rfl rfl (fun H locs hM hS hz9 => ?_)
            refine lv_iinc (v := (x4 + nI 1)) (lv' := [(4, .int (x4 + nI 1)), (3, .int ((((nI 10) * x3) + u21) - (nI 48))), (0, .ref o), (1, .int x1), (2, .int x2)]) S.1 S.2.1 dX11_number_63 hl (k := 4) rfl rfl (by decide) rfl (fun ls hl => ?_)
            refine lv_goto (tgt := 11) S.1 S.2.1 dX11_number_66 (by decide) ?_
            exact ih x1 x2 ((((nI 10) * x3) + u21) - (nI 48)) (x4 + nI 1) (sI μ 336 o ((mI μ 336 o) + (nI 1))) H locs ls hM hS (lv_sub hl [2, 3, 4, 1, 0] rfl) h
  intro H locs ls hM hS hl
  have hl : lv_has ls 5 [(0, .ref o), (1, .int x1), (2, .int x2)] := hl
  unfold w_X11_number at h
  refine lv_aload_n S.1 S.2.1 dX11_number_0 rfl (lv_at hl 0 rfl) ?_
  refine va_ldcS (q := gS G 31) S.1 S.2.1 S.2.2.2.1 (hG.2.2.2.2.2.1 31 ("CrowMailModel", 213, " ") rfl) dX11_number_1 ?_
  obtain ⟨k1, h⟩ := h
  refine mz_V S hG hM hS cf_10 k1 (As := [.ref (gS G 31)]) (rest := []) (c_X11_says h) yf_X11_says tw_1928 tw_1930 ts_60 ⟨Nat.le_of_ble_eq_true rfl, Nat.le_of_ble_eq_true rfl⟩ ⟨(Nat.le_of_ble_eq_true rfl), (Nat.le_of_ble_eq_true rfl)⟩ rfl hl.1 rfl (Nat.le_of_ble_eq_true rfl) dX11_number_3 (fun v9 μ2 H locs hp hM hS => ?_)
  obtain ⟨rfl, h⟩ := hp
  refine W.cs (cells' := 0) (slots' := 0) rfl rfl ?_
  refine lv_iconst (v := (nI 0)) S.1 S.2.1 dX11_number_6 (by decide) ?_
  refine lv_istore_n (lv' := [(3, .int (nI 0)), (0, .ref o), (1, .int x1), (2, .int x2)]) S.1 S.2.1 dX11_number_7 rfl hl (by decide) rfl (fun ls hl => ?_)
  refine lv_iconst (v := (nI 0)) S.1 S.2.1 dX11_number_8 (by decide) ?_
  refine lv_istore (lv' := [(4, .int (nI 0)), (3, .int (nI 0)), (0, .ref o), (1, .int x1), (2, .int x2)]) S.1 S.2.1 dX11_number_9 hl (by decide) rfl (fun ls hl => ?_)
  obtain ⟨n9, h⟩ := h
  exact hB11  n9 x1 x2 (nI 0) (nI 0) μ2 H locs ls hM hS (lv_sub hl [2, 3, 4, 1, 0] rfl) h
set_option maxRecDepth 100000 in
set_option maxHeartbeats 4000000 in
theorem c_X11_one {l : Launch} {G : mgT} {μ : mmT} {o : Nat} {x1 : Int32} {r2 : Option Nat} {x3 : Int32} {x4 : Int32} {Q : mmT → Prop} (h : w_X11_one G μ o x1 r2 x3 x4 Q) : MC G l yX11_one cX11_one 5 none { frames := 6, cells := 0, slots := 0, locals := 131 } [.ref o, .int x1, va_rf r2, .int x3, .int x4] μ (pV Q) := by
  refine mz_MC (by decide +kernel) (by simp [lg_sl, mz_cat, mz_cr, mz_ci, mz_cl, mz_cf, mz_cd, mz_cn]) (fun p e s m args below meth c S hG hr hlk hnm => ?_)
  have hB53 : ∀ (μ : mmT) (H : Heap) (locs : List Loc) (ls : Array Slot), Mm G μ H → va_S (Ah G) s.heap H locs → lv_has ls 5 [(0, .ref o)] → w_X11_one_b53 G o Q  μ → W p l e { frames := 6, cells := 0, slots := 0, locals := 131 } s m args below meth c H locs 0 0 (MQ below (mQ G (pV Q)) args s 0 0 (Ah G)) (F0 m 53 ls []) := by
    intro  μ H locs ls hM hS hl h
    unfold w_X11_one_b53 at h
    exact mz_vret S hr hlk hM hS (Nat.le_of_ble_eq_true rfl) (Nat.le_of_ble_eq_true rfl) dX11_one_53 ⟨rfl, h⟩
  have hB41 : ∀ (x4 : Int32) (μ : mmT) (H : Heap) (locs : List Loc) (ls : Array Slot), Mm G μ H → va_S (Ah G) s.heap H locs → lv_has ls 5 [(0, .ref o), (4, .int x4)] → w_X11_one_b41 G o Q  x4 μ → W p l e { frames := 6, cells := 0, slots := 0, locals := 131 } s m args below meth c H locs 0 0 (MQ below (mQ G (pV Q)) args s 0 0 (Ah G)) (F0 m 41 ls []) := by
    intro  x4 μ H locs ls hM hS hl h
    unfold w_X11_one_b41 at h
    refine lv_iload S.1 S.2.1 dX11_one_41 (lv_at hl 1 rfl) ?_
    refine lv_if_le (tgt := 53) S.1 S.2.1 dX11_one_43 (by decide) (fun c12 => ?_) (fun c12 => ?_)
    · have h := h.1 c12
      exact hB53  μ H locs ls hM hS (lv_sub hl [0] rfl) h
    · have h := h.2 c12
      refine lv_aload_n S.1 S.2.1 dX11_one_46 rfl (lv_at hl 0 rfl) ?_
      refine lv_iconst (v := (nI 2)) S.1 S.2.1 dX11_one_47 (by decide) ?_
      refine lv_iload S.1 S.2.1 dX11_one_48 (lv_at hl 1 rfl) ?_
      obtain ⟨k13, h⟩ := h
      refine mz_V S hG hM hS cf_10 k13 (As := [.int (nI 2), .int x4]) (rest := []) (c_X11_number h) yf_X11_number tw_1934 tw_1936 ts_61 ⟨Nat.le_of_ble_eq_true rfl, Nat.le_of_ble_eq_true rfl⟩ ⟨(Nat.le_of_ble_eq_true rfl), (Nat.le_of_ble_eq_true rfl)⟩ rfl hl.1 rfl (Nat.le_of_ble_eq_true rfl) dX11_one_50 (fun v9 μ14 H locs hp hM hS => ?_)
      obtain ⟨rfl, h⟩ := hp
      refine W.cs (cells' := 0) (slots' := 0) rfl rfl ?_
      exact hB53  μ14 H locs ls hM hS (lv_sub hl [0] rfl) h
  intro H locs ls hM hS hl
  have hl : lv_has ls 5 [(0, .ref o), (1, .int x1), (2, va_rf r2), (3, .int x3), (4, .int x4)] := by simpa [lv_args, mz_cat, mz_cr, mz_ci, mz_cl, mz_cf, mz_cd, mz_cn] using hl
  unfold w_X11_one at h
  refine lv_aload_n S.1 S.2.1 dX11_one_0 rfl (lv_at hl 0 rfl) ?_
  obtain ⟨k1, h⟩ := h
  refine mz_getr S hG hM cf_10 fd_329 tw_1491 dX11_one_1 k1 ?_
  refine lv_iconst (v := (nI 3)) S.1 S.2.1 dX11_one_4 (by decide) ?_
  refine lv_aload_n S.1 S.2.1 dX11_one_5 rfl (lv_at hl 0 rfl) ?_
  refine mz_geti S hG hM cf_10 fd_338 tw_1500 dX11_one_6 k1 ?_
  refine lv_imul S.1 S.2.1 dX11_one_9 ?_
  refine lv_iload_n S.1 S.2.1 dX11_one_10 rfl (lv_at hl 1 rfl) ?_
  obtain ⟨a2, e3, h⟩ := h
  refine mz_o2 e3 ?_
  obtain ⟨k4, h⟩ := h
  obtain ⟨b5, h⟩ := h
  refine mz_iast S hG hM hS dX11_one_11 k4 b5 (fun H locs hM hS hz9 => ?_)
  refine lv_aload_n S.1 S.2.1 dX11_one_12 rfl (lv_at hl 0 rfl) ?_
  refine mz_getr S hG hM cf_10 fd_329 tw_1491 dX11_one_13 k1 ?_
  refine lv_iconst (v := (nI 3)) S.1 S.2.1 dX11_one_16 (by decide) ?_
  refine lv_aload_n S.1 S.2.1 dX11_one_17 rfl (lv_at hl 0 rfl) ?_
  refine mz_geti S hG hM cf_10 fd_338 tw_1500 dX11_one_18 k1 ?_
  refine lv_imul S.1 S.2.1 dX11_one_21 ?_
  refine lv_iconst (v := (nI 1)) S.1 S.2.1 dX11_one_22 (by decide) ?_
  refine lv_iadd S.1 S.2.1 dX11_one_23 ?_
  refine lv_iconst (v := (nI 1)) S.1 S.2.1 dX11_one_24 (by decide) ?_
  obtain ⟨a6, e7, h⟩ := h
  refine mz_o2 e7 ?_
  obtain ⟨k8, h⟩ := h
  obtain ⟨b9, h⟩ := h
  refine mz_iast S hG hM hS dX11_one_25 k8 b9 (fun H locs hM hS hz9 => ?_)
  refine lv_aload_n S.1 S.2.1 dX11_one_26 rfl (lv_at hl 0 rfl) ?_
  refine mz_aload_n (x := r2) S.1 S.2.1 dX11_one_27 rfl (lv_at hl 2 rfl) ?_
  refine mz_V S hG hM hS cf_10 k1 (As := [va_rf r2]) (rest := []) (c_X11_says h) yf_X11_says tw_1928 tw_1930 ts_60 ⟨Nat.le_of_ble_eq_true rfl, Nat.le_of_ble_eq_true rfl⟩ ⟨(Nat.le_of_ble_eq_true rfl), (Nat.le_of_ble_eq_true rfl)⟩ rfl hl.1 rfl (Nat.le_of_ble_eq_true rfl) dX11_one_28 (fun v9 μ10 H locs hp hM hS => ?_)
  obtain ⟨rfl, h⟩ := hp
  refine W.cs (cells' := 0) (slots' := 0) rfl rfl ?_
  refine lv_iload_n S.1 S.2.1 dX11_one_31 rfl (lv_at hl 3 rfl) ?_
  refine lv_if_le (tgt := 41) S.1 S.2.1 dX11_one_32 (by decide) (fun c11 => ?_) (fun c11 => ?_)
  · have h := h.1 c11
    exact hB41  x4 μ10 H locs ls hM hS (lv_sub hl [0, 4] rfl) h
  · have h := h.2 c11
    refine lv_aload_n S.1 S.2.1 dX11_one_35 rfl (lv_at hl 0 rfl) ?_
    refine lv_iconst (v := (nI 1)) S.1 S.2.1 dX11_one_36 (by decide) ?_
    refine lv_iload_n S.1 S.2.1 dX11_one_37 rfl (lv_at hl 3 rfl) ?_
    obtain ⟨k15, h⟩ := h
    refine mz_V S hG hM hS cf_10 k15 (As := [.int (nI 1), .int x3]) (rest := []) (c_X11_number h) yf_X11_number tw_1934 tw_1936 ts_61 ⟨Nat.le_of_ble_eq_true rfl, Nat.le_of_ble_eq_true rfl⟩ ⟨(Nat.le_of_ble_eq_true rfl), (Nat.le_of_ble_eq_true rfl)⟩ rfl hl.1 rfl (Nat.le_of_ble_eq_true rfl) dX11_one_38 (fun v9 μ16 H locs hp hM hS => ?_)
    obtain ⟨rfl, h⟩ := hp
    refine W.cs (cells' := 0) (slots' := 0) rfl rfl ?_
    exact hB41  x4 μ16 H locs ls hM hS (lv_sub hl [0, 4] rfl) h
set_option maxRecDepth 100000 in
set_option maxHeartbeats 4000000 in
theorem c_X11_readsOne {l : Launch} {G : mgT} {μ : mmT} {o : Nat} {Q : mmT → Prop} (h : w_X11_readsOne G μ o Q) : MC G l yX11_readsOne cX11_readsOne 1 none { frames := 7, cells := 0, slots := 0, locals := 155 } [.ref o] μ (pV Q) := by
  refine mz_MC (by decide +kernel) (Nat.le_of_ble_eq_true rfl) (fun p e s m args below meth c S hG hr hlk hnm => ?_)
  have hB246 : ∀ (μ : mmT) (H : Heap) (locs : List Loc) (ls : Array Slot), Mm G μ H → va_S (Ah G) s.heap H locs → lv_has ls 1 [(0, .ref o)] → w_X11_readsOne_b246 G o Q  μ → W p l e { frames := 7, cells := 0, slots := 0, locals := 155 } s m args below meth c H locs 0 0 (MQ below (mQ G (pV Q)) args s 0 0 (Ah G)) (F0 m 246 ls []) := by
    intro  μ H locs ls hM hS hl h
    unfold w_X11_readsOne_b246 at h
    refine lv_aload_n S.1 S.2.1 dX11_readsOne_246 rfl (lv_at hl 0 rfl) ?_
    refine lv_dup S.1 S.2.1 dX11_readsOne_247 rfl ?_
    obtain ⟨k3, h⟩ := h
    refine mz_geti S hG hM cf_10 fd_338 tw_1500 dX11_readsOne_248 k3 ?_
    refine lv_iconst (v := (nI 1)) S.1 S.2.1 dX11_readsOne_251 (by decide) ?_
    refine lv_iadd S.1 S.2.1 dX11_readsOne_252 ?_
    refine mz_puti S hG hM hS cf_10 fd_338 tw_1500 dX11_readsOne_253 k3 rfl rfl (fun H locs hM hS hz9 => ?_)
    exact mz_vret S hr hlk hM hS (Nat.le_of_ble_eq_true rfl) (Nat.le_of_ble_eq_true rfl) dX11_readsOne_256 ⟨rfl, h⟩
  intro H locs ls hM hS hl
  have hl : lv_has ls 1 [(0, .ref o)] := hl
  unfold w_X11_readsOne at h
  refine lv_aload_n S.1 S.2.1 dX11_readsOne_0 rfl (lv_at hl 0 rfl) ?_
  refine lv_iconst (v := (nI 0)) S.1 S.2.1 dX11_readsOne_1 (by decide) ?_
  obtain ⟨k1, h⟩ := h
  refine mz_V S hG hM hS cf_10 k1 (As := [.int (nI 0)]) (rest := []) (c_X11_here h) yf_X11_here tw_1919 tw_1921 ts_58 ⟨Nat.le_of_ble_eq_true rfl, Nat.le_of_ble_eq_true rfl⟩ ⟨(Nat.le_of_ble_eq_true rfl), (Nat.le_of_ble_eq_true rfl)⟩ rfl hl.1 rfl (Nat.le_of_ble_eq_true rfl) dX11_readsOne_2 (fun v9 μ9 H locs hp hM hS => ?_)
  obtain ⟨u2, rfl, e9, h⟩ := hp
  rw [e9] at hM
  refine W.cs (cells' := 0) (slots' := 0) rfl rfl ?_
  by_cases c9 : ∀ k ∈ ([99, 100, 102, 110, 114, 115, 119] : List Nat), ¬ u2 = nI k
  · have h := h.1 c9
    refine mz_table (tgt := 241) S.1 S.2.1 dX11_readsOne_5 (by decide) (by rw [mz_dflt [99, 100, 102, 110, 114, 115, 119] 21 (by decide +kernel) (by decide +kernel) (by decide +kernel) (by decide +kernel) c9]; rfl) ?_
    refine lv_aload_n S.1 S.2.1 dX11_readsOne_241 rfl (lv_at hl 0 rfl) ?_
    refine lv_iconst (v := (nI 1)) S.1 S.2.1 dX11_readsOne_242 (by decide) ?_
    refine mz_puti S hG hM hS cf_10 fd_339 tw_1501 dX11_readsOne_243 k1 rfl rfl (fun H locs hM hS hz9 => ?_)
    exact hB246  (sI μ 339 o (nI 1)) H locs ls hM hS (lv_sub hl [0] rfl) h
  · have h := h.2
    by_cases c10 : u2 = nI 99
    · have h := h.1 c10
      refine mz_table (tgt := 117) S.1 S.2.1 dX11_readsOne_5 (by decide) (by rw [c10]; decide +kernel) ?_
      refine lv_aload_n S.1 S.2.1 dX11_readsOne_117 rfl (lv_at hl 0 rfl) ?_
      refine lv_bipush (v := (nI 99)) S.1 S.2.1 dX11_readsOne_118 (by decide) ?_
      refine va_ldcS (q := gS G 32) S.1 S.2.1 S.2.2.2.1 (hG.2.2.2.2.2.1 32 ("CrowMailModel", 230, "crow") rfl) dX11_readsOne_120 ?_
      refine lv_iconst (v := (nI 0)) S.1 S.2.1 dX11_readsOne_122 (by decide) ?_
      refine lv_iconst (v := (nI 0)) S.1 S.2.1 dX11_readsOne_123 (by decide) ?_
      refine mz_V S hG hM hS cf_10 k1 (As := [.int (nI 99), .ref (gS G 32), .int (nI 0), .int (nI 0)]) (rest := []) (c_X11_one h) yf_X11_one tw_1924 tw_1926 ts_59 ⟨Nat.le_of_ble_eq_true rfl, Nat.le_of_ble_eq_true rfl⟩ ⟨(Nat.le_of_ble_eq_true rfl), (Nat.le_of_ble_eq_true rfl)⟩ rfl hl.1 rfl (Nat.le_of_ble_eq_true rfl) dX11_readsOne_124 (fun v9 μ4 H locs hp hM hS => ?_)
      obtain ⟨rfl, h⟩ := hp
      refine W.cs (cells' := 0) (slots' := 0) rfl rfl ?_
      refine lv_goto (tgt := 246) S.1 S.2.1 dX11_readsOne_127 (by decide) ?_
      exact hB246  μ4 H locs ls hM hS (lv_sub hl [0] rfl) h
    have h := h.2
    by_cases c11 : u2 = nI 100
    · have h := h.1 c11
      refine mz_table (tgt := 156) S.1 S.2.1 dX11_readsOne_5 (by decide) (by rw [c11]; decide +kernel) ?_
      refine lv_aload_n S.1 S.2.1 dX11_readsOne_156 rfl (lv_at hl 0 rfl) ?_
      refine lv_bipush (v := (nI 100)) S.1 S.2.1 dX11_readsOne_157 (by decide) ?_
      refine va_ldcS (q := gS G 35) S.1 S.2.1 S.2.2.2.1 (hG.2.2.2.2.2.1 35 ("CrowMailModel", 236, "drop") rfl) dX11_readsOne_159 ?_
      refine lv_iconst (v := (nI 3)) S.1 S.2.1 dX11_readsOne_161 (by decide) ?_
      refine lv_iconst (v := (nI 0)) S.1 S.2.1 dX11_readsOne_162 (by decide) ?_
      refine mz_V S hG hM hS cf_10 k1 (As := [.int (nI 100), .ref (gS G 35), .int (nI 3), .int (nI 0)]) (rest := []) (c_X11_one h) yf_X11_one tw_1924 tw_1926 ts_59 ⟨Nat.le_of_ble_eq_true rfl, Nat.le_of_ble_eq_true rfl⟩ ⟨(Nat.le_of_ble_eq_true rfl), (Nat.le_of_ble_eq_true rfl)⟩ rfl hl.1 rfl (Nat.le_of_ble_eq_true rfl) dX11_readsOne_163 (fun v9 μ5 H locs hp hM hS => ?_)
      obtain ⟨rfl, h⟩ := hp
      refine W.cs (cells' := 0) (slots' := 0) rfl rfl ?_
      refine lv_goto (tgt := 246) S.1 S.2.1 dX11_readsOne_166 (by decide) ?_
      exact hB246  μ5 H locs ls hM hS (lv_sub hl [0] rfl) h
    have h := h.2
    by_cases c12 : u2 = nI 102
    · have h := h.1 c12
      refine mz_table (tgt := 169) S.1 S.2.1 dX11_readsOne_5 (by decide) (by rw [c12]; decide +kernel) ?_
      refine lv_aload_n S.1 S.2.1 dX11_readsOne_169 rfl (lv_at hl 0 rfl) ?_
      refine lv_bipush (v := (nI 102)) S.1 S.2.1 dX11_readsOne_170 (by decide) ?_
      refine va_ldcS (q := gS G 36) S.1 S.2.1 S.2.2.2.1 (hG.2.2.2.2.2.1 36 ("CrowMailModel", 238, "forget") rfl) dX11_readsOne_172 ?_
      refine lv_iconst (v := (nI 1)) S.1 S.2.1 dX11_readsOne_174 (by decide) ?_
      refine lv_iconst (v := (nI 0)) S.1 S.2.1 dX11_readsOne_175 (by decide) ?_
      refine mz_V S hG hM hS cf_10 k1 (As := [.int (nI 102), .ref (gS G 36), .int (nI 1), .int (nI 0)]) (rest := []) (c_X11_one h) yf_X11_one tw_1924 tw_1926 ts_59 ⟨Nat.le_of_ble_eq_true rfl, Nat.le_of_ble_eq_true rfl⟩ ⟨(Nat.le_of_ble_eq_true rfl), (Nat.le_of_ble_eq_true rfl)⟩ rfl hl.1 rfl (Nat.le_of_ble_eq_true rfl) dX11_readsOne_176 (fun v9 μ6 H locs hp hM hS => ?_)
      obtain ⟨rfl, h⟩ := hp
      refine W.cs (cells' := 0) (slots' := 0) rfl rfl ?_
      refine lv_goto (tgt := 246) S.1 S.2.1 dX11_readsOne_179 (by decide) ?_
      exact hB246  μ6 H locs ls hM hS (lv_sub hl [0] rfl) h
    have h := h.2
    by_cases c13 : u2 = nI 110
    · have h := h.1 c13
      refine mz_table (tgt := 104) S.1 S.2.1 dX11_readsOne_5 (by decide) (by rw [c13]; decide +kernel) ?_
      refine lv_aload_n S.1 S.2.1 dX11_readsOne_104 rfl (lv_at hl 0 rfl) ?_
      refine lv_bipush (v := (nI 110)) S.1 S.2.1 dX11_readsOne_105 (by decide) ?_
      refine va_ldcS (q := gS G 30) S.1 S.2.1 S.2.2.2.1 (hG.2.2.2.2.2.1 30 ("CrowMailModel", 225, "nest") rfl) dX11_readsOne_107 ?_
      refine lv_iconst (v := (nI 1)) S.1 S.2.1 dX11_readsOne_109 (by decide) ?_
      refine lv_iconst (v := (nI 1)) S.1 S.2.1 dX11_readsOne_110 (by decide) ?_
      refine mz_V S hG hM hS cf_10 k1 (As := [.int (nI 110), .ref (gS G 30), .int (nI 1), .int (nI 1)]) (rest := []) (c_X11_one h) yf_X11_one tw_1924 tw_1926 ts_59 ⟨Nat.le_of_ble_eq_true rfl, Nat.le_of_ble_eq_true rfl⟩ ⟨(Nat.le_of_ble_eq_true rfl), (Nat.le_of_ble_eq_true rfl)⟩ rfl hl.1 rfl (Nat.le_of_ble_eq_true rfl) dX11_readsOne_111 (fun v9 μ7 H locs hp hM hS => ?_)
      obtain ⟨rfl, h⟩ := hp
      refine W.cs (cells' := 0) (slots' := 0) rfl rfl ?_
      refine lv_goto (tgt := 246) S.1 S.2.1 dX11_readsOne_114 (by decide) ?_
      exact hB246  μ7 H locs ls hM hS (lv_sub hl [0] rfl) h
    have h := h.2
    by_cases c14 : u2 = nI 114
    · have h := h.1 c14
      refine mz_table (tgt := 143) S.1 S.2.1 dX11_readsOne_5 (by decide) (by rw [c14]; decide +kernel) ?_
      refine lv_aload_n S.1 S.2.1 dX11_readsOne_143 rfl (lv_at hl 0 rfl) ?_
      refine lv_bipush (v := (nI 114)) S.1 S.2.1 dX11_readsOne_144 (by decide) ?_
      refine va_ldcS (q := gS G 34) S.1 S.2.1 S.2.2.2.1 (hG.2.2.2.2.2.1 34 ("CrowMailModel", 234, "read") rfl) dX11_readsOne_146 ?_
      refine lv_iconst (v := (nI 1)) S.1 S.2.1 dX11_readsOne_148 (by decide) ?_
      refine lv_iconst (v := (nI 0)) S.1 S.2.1 dX11_readsOne_149 (by decide) ?_
      refine mz_V S hG hM hS cf_10 k1 (As := [.int (nI 114), .ref (gS G 34), .int (nI 1), .int (nI 0)]) (rest := []) (c_X11_one h) yf_X11_one tw_1924 tw_1926 ts_59 ⟨Nat.le_of_ble_eq_true rfl, Nat.le_of_ble_eq_true rfl⟩ ⟨(Nat.le_of_ble_eq_true rfl), (Nat.le_of_ble_eq_true rfl)⟩ rfl hl.1 rfl (Nat.le_of_ble_eq_true rfl) dX11_readsOne_150 (fun v9 μ8 H locs hp hM hS => ?_)
      obtain ⟨rfl, h⟩ := hp
      refine W.cs (cells' := 0) (slots' := 0) rfl rfl ?_
      refine lv_goto (tgt := 246) S.1 S.2.1 dX11_readsOne_153 (by decide) ?_
      exact hB246  μ8 H locs ls hM hS (lv_sub hl [0] rfl) h
    have h := h.2
    by_cases c15 : u2 = nI 115
    · have h := h.1 c15
      refine mz_table (tgt := 130) S.1 S.2.1 dX11_readsOne_5 (by decide) (by rw [c15]; decide +kernel) ?_
      refine lv_aload_n S.1 S.2.1 dX11_readsOne_130 rfl (lv_at hl 0 rfl) ?_
      refine lv_bipush (v := (nI 115)) S.1 S.2.1 dX11_readsOne_131 (by decide) ?_
      refine va_ldcS (q := gS G 33) S.1 S.2.1 S.2.2.2.1 (hG.2.2.2.2.2.1 33 ("CrowMailModel", 232, "send") rfl) dX11_readsOne_133 ?_
      refine lv_iconst (v := (nI 1)) S.1 S.2.1 dX11_readsOne_135 (by decide) ?_
      refine lv_iconst (v := (nI 3)) S.1 S.2.1 dX11_readsOne_136 (by decide) ?_
      refine mz_V S hG hM hS cf_10 k1 (As := [.int (nI 115), .ref (gS G 33), .int (nI 1), .int (nI 3)]) (rest := []) (c_X11_one h) yf_X11_one tw_1924 tw_1926 ts_59 ⟨Nat.le_of_ble_eq_true rfl, Nat.le_of_ble_eq_true rfl⟩ ⟨(Nat.le_of_ble_eq_true rfl), (Nat.le_of_ble_eq_true rfl)⟩ rfl hl.1 rfl (Nat.le_of_ble_eq_true rfl) dX11_readsOne_137 (fun v9 μ9 H locs hp hM hS => ?_)
      obtain ⟨rfl, h⟩ := hp
      refine W.cs (cells' := 0) (slots' := 0) rfl rfl ?_
      refine lv_goto (tgt := 246) S.1 S.2.1 dX11_readsOne_140 (by decide) ?_
      exact hB246  μ9 H locs ls hM hS (lv_sub hl [0] rfl) h
    have h := h.2
    by_cases c16 : u2 = nI 119
    · have h := h c16
      refine mz_table (tgt := 182) S.1 S.2.1 dX11_readsOne_5 (by decide) (by rw [c16]; decide +kernel) ?_
      refine lv_aload_n S.1 S.2.1 dX11_readsOne_182 rfl (lv_at hl 0 rfl) ?_
      refine lv_iconst (v := (nI 1)) S.1 S.2.1 dX11_readsOne_183 (by decide) ?_
      refine mz_V S hG hM hS cf_10 k1 (As := [.int (nI 1)]) (rest := []) (c_X11_here h) yf_X11_here tw_1919 tw_1921 ts_58 ⟨Nat.le_of_ble_eq_true rfl, Nat.le_of_ble_eq_true rfl⟩ ⟨(Nat.le_of_ble_eq_true rfl), (Nat.le_of_ble_eq_true rfl)⟩ rfl hl.1 rfl (Nat.le_of_ble_eq_true rfl) dX11_readsOne_184 (fun v9 μ9 H locs hp hM hS => ?_)
      obtain ⟨u10, rfl, e9, h⟩ := hp
      rw [e9] at hM
      refine W.cs (cells' := 0) (slots' := 0) rfl rfl ?_
      refine lv_bipush (v := (nI 97)) S.1 S.2.1 dX11_readsOne_187 (by decide) ?_
      refine lv_icmp_ne (tgt := 228) S.1 S.2.1 dX11_readsOne_189 (by decide) (fun c11 => ?_) (fun c11 => ?_)
      · have h := h.1 c11
        refine lv_aload_n S.1 S.2.1 dX11_readsOne_228 rfl (lv_at hl 0 rfl) ?_
        refine lv_bipush (v := (nI 119)) S.1 S.2.1 dX11_readsOne_229 (by decide) ?_
        refine va_ldcS (q := gS G 38) S.1 S.2.1 S.2.2.2.1 (hG.2.2.2.2.2.1 38 ("CrowMailModel", 242, "wind") rfl) dX11_readsOne_231 ?_
        refine lv_iconst (v := (nI 1)) S.1 S.2.1 dX11_readsOne_233 (by decide) ?_
        refine lv_iconst (v := (nI 0)) S.1 S.2.1 dX11_readsOne_234 (by decide) ?_
        refine mz_V S hG hM hS cf_10 k1 (As := [.int (nI 119), .ref (gS G 38), .int (nI 1), .int (nI 0)]) (rest := []) (c_X11_one h) yf_X11_one tw_1924 tw_1926 ts_59 ⟨Nat.le_of_ble_eq_true rfl, Nat.le_of_ble_eq_true rfl⟩ ⟨(Nat.le_of_ble_eq_true rfl), (Nat.le_of_ble_eq_true rfl)⟩ rfl hl.1 rfl (Nat.le_of_ble_eq_true rfl) dX11_readsOne_235 (fun v9 μ12 H locs hp hM hS => ?_)
        obtain ⟨rfl, h⟩ := hp
        refine W.cs (cells' := 0) (slots' := 0) rfl rfl ?_
        refine lv_goto (tgt := 246) S.1 S.2.1 dX11_readsOne_238 (by decide) ?_
        exact hB246  μ12 H locs ls hM hS (lv_sub hl [0] rfl) h
      · have h := h.2 c11
        refine lv_aload_n S.1 S.2.1 dX11_readsOne_192 rfl (lv_at hl 0 rfl) ?_
        refine lv_bipush (v := (nI 97)) S.1 S.2.1 dX11_readsOne_193 (by decide) ?_
        refine va_ldcS (q := gS G 37) S.1 S.2.1 S.2.2.2.1 (hG.2.2.2.2.2.1 37 ("CrowMailModel", 240, "wait") rfl) dX11_readsOne_195 ?_
        refine lv_iconst (v := (nI 0)) S.1 S.2.1 dX11_readsOne_197 (by decide) ?_
        refine lv_iconst (v := (nI 0)) S.1 S.2.1 dX11_readsOne_198 (by decide) ?_
        refine mz_V S hG hM hS cf_10 k1 (As := [.int (nI 97), .ref (gS G 37), .int (nI 0), .int (nI 0)]) (rest := []) (c_X11_one h) yf_X11_one tw_1924 tw_1926 ts_59 ⟨Nat.le_of_ble_eq_true rfl, Nat.le_of_ble_eq_true rfl⟩ ⟨(Nat.le_of_ble_eq_true rfl), (Nat.le_of_ble_eq_true rfl)⟩ rfl hl.1 rfl (Nat.le_of_ble_eq_true rfl) dX11_readsOne_199 (fun v9 μ13 H locs hp hM hS => ?_)
        obtain ⟨rfl, h⟩ := hp
        refine W.cs (cells' := 0) (slots' := 0) rfl rfl ?_
        refine lv_aload_n S.1 S.2.1 dX11_readsOne_202 rfl (lv_at hl 0 rfl) ?_
        obtain ⟨k14, h⟩ := h
        refine mz_geti S hG hM cf_10 fd_339 tw_1501 dX11_readsOne_203 k14 ?_
        refine lv_if_ne (tgt := 246) S.1 S.2.1 dX11_readsOne_206 (by decide) (fun c15 => ?_) (fun c15 => ?_)
        · have h := h.1 c15
          exact hB246  μ13 H locs ls hM hS (lv_sub hl [0] rfl) h
        · have h := h.2 c15
          refine lv_aload_n S.1 S.2.1 dX11_readsOne_209 rfl (lv_at hl 0 rfl) ?_
          refine lv_iconst (v := (nI 0)) S.1 S.2.1 dX11_readsOne_210 (by decide) ?_
          refine mz_V S hG hM hS cf_10 k14 (As := [.int (nI 0)]) (rest := []) (c_X11_here h) yf_X11_here tw_1919 tw_1921 ts_58 ⟨Nat.le_of_ble_eq_true rfl, Nat.le_of_ble_eq_true rfl⟩ ⟨(Nat.le_of_ble_eq_true rfl), (Nat.le_of_ble_eq_true rfl)⟩ rfl hl.1 rfl (Nat.le_of_ble_eq_true rfl) dX11_readsOne_211 (fun v9 μ9 H locs hp hM hS => ?_)
          obtain ⟨u16, rfl, e9, h⟩ := hp
          rw [e9] at hM
          refine W.cs (cells' := 0) (slots' := 0) rfl rfl ?_
          refine lv_bipush (v := (nI 32)) S.1 S.2.1 dX11_readsOne_214 (by decide) ?_
          refine lv_icmp_ne (tgt := 246) S.1 S.2.1 dX11_readsOne_216 (by decide) (fun c17 => ?_) (fun c17 => ?_)
          · have h := h.1 c17
            exact hB246  μ13 H locs ls hM hS (lv_sub hl [0] rfl) h
          · have h := h.2 c17
            refine lv_aload_n S.1 S.2.1 dX11_readsOne_219 rfl (lv_at hl 0 rfl) ?_
            refine lv_iconst (v := (nI 1)) S.1 S.2.1 dX11_readsOne_220 (by decide) ?_
            refine lv_iconst (v := (nI 3)) S.1 S.2.1 dX11_readsOne_221 (by decide) ?_
            refine mz_V S hG hM hS cf_10 k14 (As := [.int (nI 1), .int (nI 3)]) (rest := []) (c_X11_number h) yf_X11_number tw_1934 tw_1936 ts_61 ⟨Nat.le_of_ble_eq_true rfl, Nat.le_of_ble_eq_true rfl⟩ ⟨(Nat.le_of_ble_eq_true rfl), (Nat.le_of_ble_eq_true rfl)⟩ rfl hl.1 rfl (Nat.le_of_ble_eq_true rfl) dX11_readsOne_222 (fun v9 μ18 H locs hp hM hS => ?_)
            obtain ⟨rfl, h⟩ := hp
            refine W.cs (cells' := 0) (slots' := 0) rfl rfl ?_
            refine lv_goto (tgt := 246) S.1 S.2.1 dX11_readsOne_225 (by decide) ?_
            exact hB246  μ18 H locs ls hM hS (lv_sub hl [0] rfl) h
    exact absurd (by simp [c10, c11, c12, c13, c14, c15, c16]) c9
set_option maxRecDepth 100000 in
set_option maxHeartbeats 4000000 in
theorem c_X11_does {l : Launch} {G : mgT} {μ : mmT} {o : Nat} {x1 : Int32} {Q : Int32 → mmT → Prop} (h : w_X11_does G μ o x1 Q) : MC G l yX11_does cX11_does 4 (some .int) { frames := 5, cells := 0, slots := 0, locals := 117 } [.ref o, .int x1] μ (pI Q) := by
  refine mz_MC (by decide +kernel) (Nat.le_of_ble_eq_true rfl) (fun p e s m args below meth c S hG hr hlk hnm => ?_)
  intro H locs ls hM hS hl
  have hl : lv_has ls 4 [(0, .ref o), (1, .int x1)] := hl
  unfold w_X11_does at h
  refine lv_aload_n S.1 S.2.1 dX11_does_0 rfl (lv_at hl 0 rfl) ?_
  obtain ⟨k1, h⟩ := h
  refine mz_getr S hG hM cf_10 fd_329 tw_1491 dX11_does_1 k1 ?_
  refine lv_iconst (v := (nI 3)) S.1 S.2.1 dX11_does_4 (by decide) ?_
  refine lv_iload_n S.1 S.2.1 dX11_does_5 rfl (lv_at hl 1 rfl) ?_
  refine lv_imul S.1 S.2.1 dX11_does_6 ?_
  refine lv_iconst (v := (nI 1)) S.1 S.2.1 dX11_does_7 (by decide) ?_
  refine lv_iadd S.1 S.2.1 dX11_does_8 ?_
  obtain ⟨a2, e3, h⟩ := h
  refine mz_o1 e3 ?_
  obtain ⟨k4, h⟩ := h
  obtain ⟨b5, h⟩ := h
  refine mz_iald S hG hM dX11_does_9 k4 b5 ?_
  refine lv_istore_n (lv' := [(2, .int (mA μ a2 (((nI 3) * x1) + (nI 1)).toNatClampNeg)), (0, .ref o), (1, .int x1)]) S.1 S.2.1 dX11_does_10 rfl hl (by decide) rfl (fun ls hl => ?_)
  refine lv_aload_n S.1 S.2.1 dX11_does_11 rfl (lv_at hl 1 rfl) ?_
  refine mz_getr S hG hM cf_10 fd_329 tw_1491 dX11_does_12 k1 ?_
  refine lv_iconst (v := (nI 3)) S.1 S.2.1 dX11_does_15 (by decide) ?_
  refine lv_iload_n S.1 S.2.1 dX11_does_16 rfl (lv_at hl 2 rfl) ?_
  refine lv_imul S.1 S.2.1 dX11_does_17 ?_
  refine lv_iconst (v := (nI 2)) S.1 S.2.1 dX11_does_18 (by decide) ?_
  refine lv_iadd S.1 S.2.1 dX11_does_19 ?_
  refine mz_o1 e3 ?_
  obtain ⟨b6, h⟩ := h
  refine mz_iald S hG hM dX11_does_20 k4 b6 ?_
  refine lv_istore_n (lv' := [(3, .int (mA μ a2 (((nI 3) * x1) + (nI 2)).toNatClampNeg)), (2, .int (mA μ a2 (((nI 3) * x1) + (nI 1)).toNatClampNeg)), (0, .ref o), (1, .int x1)]) S.1 S.2.1 dX11_does_21 rfl hl (by decide) rfl (fun ls hl => ?_)
  refine lv_aload_n S.1 S.2.1 dX11_does_22 rfl (lv_at hl 2 rfl) ?_
  refine mz_getr S hG hM cf_10 fd_329 tw_1491 dX11_does_23 k1 ?_
  refine lv_iconst (v := (nI 3)) S.1 S.2.1 dX11_does_26 (by decide) ?_
  refine lv_iload_n S.1 S.2.1 dX11_does_27 rfl (lv_at hl 3 rfl) ?_
  refine lv_imul S.1 S.2.1 dX11_does_28 ?_
  refine mz_o1 e3 ?_
  obtain ⟨b7, h⟩ := h
  refine mz_iald S hG hM dX11_does_29 k4 b7 ?_
  by_cases c9 : ∀ k ∈ ([99, 100, 102, 110, 114, 115, 119] : List Nat), ¬ (mA μ a2 ((nI 3) * x1).toNatClampNeg) = nI k
  · have h := h.1 c9
    refine mz_table (tgt := 171) S.1 S.2.1 dX11_does_30 (by decide) (by rw [mz_dflt [99, 100, 102, 110, 114, 115, 119] 21 (by decide +kernel) (by decide +kernel) (by decide +kernel) (by decide +kernel) c9]; rfl) ?_
    refine lv_aload_n S.1 S.2.1 dX11_does_171 rfl (lv_at hl 2 rfl) ?_
    refine lv_iload_n S.1 S.2.1 dX11_does_172 rfl (lv_at hl 1 rfl) ?_
    refine mz_V S hG hM hS cf_10 k1 (As := [.int (mA μ a2 (((nI 3) * x1) + (nI 1)).toNatClampNeg)]) (rest := []) (c_X11_passes h) yf_X11_passes tw_1658 tw_1660 ts_41 ⟨Nat.le_of_ble_eq_true rfl, Nat.le_of_ble_eq_true rfl⟩ ⟨(Nat.le_of_ble_eq_true rfl), (Nat.le_of_ble_eq_true rfl)⟩ rfl hl.1 rfl (Nat.le_of_ble_eq_true rfl) dX11_does_173 (fun v9 μ9 H locs hp hM hS => ?_)
    obtain ⟨u8, rfl, h⟩ := hp
    refine W.cs (cells' := 0) (slots' := 0) rfl rfl ?_
    exact mz_iret S hr hlk hM hS rfl (Nat.le_of_ble_eq_true rfl) (Nat.le_of_ble_eq_true rfl) dX11_does_176 ⟨_, rfl, h⟩
  · have h := h.2
    by_cases c10 : (mA μ a2 ((nI 3) * x1).toNatClampNeg) = nI 99
    · have h := h.1 c10
      refine mz_table (tgt := 135) S.1 S.2.1 dX11_does_30 (by decide) (by rw [c10]; decide +kernel) ?_
      refine lv_aload_n S.1 S.2.1 dX11_does_135 rfl (lv_at hl 2 rfl) ?_
      refine mz_V S hG hM hS cf_10 k1 (As := []) (rest := []) (c_X11_hires h) yf_X11_hires tw_1586 tw_1588 ts_29 ⟨Nat.le_of_ble_eq_true rfl, Nat.le_of_ble_eq_true rfl⟩ ⟨(Nat.le_of_ble_eq_true rfl), (Nat.le_of_ble_eq_true rfl)⟩ rfl hl.1 rfl (Nat.le_of_ble_eq_true rfl) dX11_does_136 (fun v9 μ11 H locs hp hM hS => ?_)
      obtain ⟨u10, rfl, h⟩ := hp
      refine W.cs (cells' := 0) (slots' := 0) rfl rfl ?_
      exact mz_iret S hr hlk hM hS rfl (Nat.le_of_ble_eq_true rfl) (Nat.le_of_ble_eq_true rfl) dX11_does_139 ⟨_, rfl, h⟩
    have h := h.2
    by_cases c11 : (mA μ a2 ((nI 3) * x1).toNatClampNeg) = nI 100
    · have h := h.1 c11
      refine mz_table (tgt := 153) S.1 S.2.1 dX11_does_30 (by decide) (by rw [c11]; decide +kernel) ?_
      refine lv_aload_n S.1 S.2.1 dX11_does_153 rfl (lv_at hl 2 rfl) ?_
      refine lv_iload_n S.1 S.2.1 dX11_does_154 rfl (lv_at hl 1 rfl) ?_
      refine mz_V S hG hM hS cf_10 k1 (As := [.int (mA μ a2 (((nI 3) * x1) + (nI 1)).toNatClampNeg)]) (rest := []) (c_X11_cancels h) yf_X11_cancels tw_1634 tw_1636 ts_38 ⟨Nat.le_of_ble_eq_true rfl, Nat.le_of_ble_eq_true rfl⟩ ⟨(Nat.le_of_ble_eq_true rfl), (Nat.le_of_ble_eq_true rfl)⟩ rfl hl.1 rfl (Nat.le_of_ble_eq_true rfl) dX11_does_155 (fun v9 μ13 H locs hp hM hS => ?_)
      obtain ⟨u12, rfl, h⟩ := hp
      refine W.cs (cells' := 0) (slots' := 0) rfl rfl ?_
      exact mz_iret S hr hlk hM hS rfl (Nat.le_of_ble_eq_true rfl) (Nat.le_of_ble_eq_true rfl) dX11_does_158 ⟨_, rfl, h⟩
    have h := h.2
    by_cases c12 : (mA μ a2 ((nI 3) * x1).toNatClampNeg) = nI 102
    · have h := h.1 c12
      refine mz_table (tgt := 159) S.1 S.2.1 dX11_does_30 (by decide) (by rw [c12]; decide +kernel) ?_
      refine lv_aload_n S.1 S.2.1 dX11_does_159 rfl (lv_at hl 2 rfl) ?_
      refine lv_iload_n S.1 S.2.1 dX11_does_160 rfl (lv_at hl 1 rfl) ?_
      refine mz_V S hG hM hS cf_10 k1 (As := [.int (mA μ a2 (((nI 3) * x1) + (nI 1)).toNatClampNeg)]) (rest := []) (c_X11_forgets h) yf_X11_forgets tw_1650 tw_1652 ts_40 ⟨Nat.le_of_ble_eq_true rfl, Nat.le_of_ble_eq_true rfl⟩ ⟨(Nat.le_of_ble_eq_true rfl), (Nat.le_of_ble_eq_true rfl)⟩ rfl hl.1 rfl (Nat.le_of_ble_eq_true rfl) dX11_does_161 (fun v9 μ15 H locs hp hM hS => ?_)
      obtain ⟨u14, rfl, h⟩ := hp
      refine W.cs (cells' := 0) (slots' := 0) rfl rfl ?_
      exact mz_iret S hr hlk hM hS rfl (Nat.le_of_ble_eq_true rfl) (Nat.le_of_ble_eq_true rfl) dX11_does_164 ⟨_, rfl, h⟩
    have h := h.2
    by_cases c13 : (mA μ a2 ((nI 3) * x1).toNatClampNeg) = nI 110
    · have h := h.1 c13
      refine mz_table (tgt := 128) S.1 S.2.1 dX11_does_30 (by decide) (by rw [c13]; decide +kernel) ?_
      refine lv_aload_n S.1 S.2.1 dX11_does_128 rfl (lv_at hl 2 rfl) ?_
      refine lv_iload_n S.1 S.2.1 dX11_does_129 rfl (lv_at hl 1 rfl) ?_
      refine lv_iload_n S.1 S.2.1 dX11_does_130 rfl (lv_at hl 0 rfl) ?_
      refine mz_V S hG hM hS cf_10 k1 (As := [.int (mA μ a2 (((nI 3) * x1) + (nI 1)).toNatClampNeg), .int (mA μ a2 (((nI 3) * x1) + (nI 2)).toNatClampNeg)]) (rest := []) (c_X11_builds h) yf_X11_builds tw_1555 tw_1557 ts_23 ⟨Nat.le_of_ble_eq_true rfl, Nat.le_of_ble_eq_true rfl⟩ ⟨(Nat.le_of_ble_eq_true rfl), (Nat.le_of_ble_eq_true rfl)⟩ rfl hl.1 rfl (Nat.le_of_ble_eq_true rfl) dX11_does_131 (fun v9 μ17 H locs hp hM hS => ?_)
      obtain ⟨u16, rfl, h⟩ := hp
      refine W.cs (cells' := 0) (slots' := 0) rfl rfl ?_
      exact mz_iret S hr hlk hM hS rfl (Nat.le_of_ble_eq_true rfl) (Nat.le_of_ble_eq_true rfl) dX11_does_134 ⟨_, rfl, h⟩
    have h := h.2
    by_cases c14 : (mA μ a2 ((nI 3) * x1).toNatClampNeg) = nI 114
    · have h := h.1 c14
      refine mz_table (tgt := 147) S.1 S.2.1 dX11_does_30 (by decide) (by rw [c14]; decide +kernel) ?_
      refine lv_aload_n S.1 S.2.1 dX11_does_147 rfl (lv_at hl 2 rfl) ?_
      refine lv_iload_n S.1 S.2.1 dX11_does_148 rfl (lv_at hl 1 rfl) ?_
      refine mz_V S hG hM hS cf_10 k1 (As := [.int (mA μ a2 (((nI 3) * x1) + (nI 1)).toNatClampNeg)]) (rest := []) (c_X11_reads h) yf_X11_reads tw_1610 tw_1612 ts_33 ⟨Nat.le_of_ble_eq_true rfl, Nat.le_of_ble_eq_true rfl⟩ ⟨(Nat.le_of_ble_eq_true rfl), (Nat.le_of_ble_eq_true rfl)⟩ rfl hl.1 rfl (Nat.le_of_ble_eq_true rfl) dX11_does_149 (fun v9 μ19 H locs hp hM hS => ?_)
      obtain ⟨u18, rfl, h⟩ := hp
      refine W.cs (cells' := 0) (slots' := 0) rfl rfl ?_
      exact mz_iret S hr hlk hM hS rfl (Nat.le_of_ble_eq_true rfl) (Nat.le_of_ble_eq_true rfl) dX11_does_152 ⟨_, rfl, h⟩
    have h := h.2
    by_cases c15 : (mA μ a2 ((nI 3) * x1).toNatClampNeg) = nI 115
    · have h := h.1 c15
      refine mz_table (tgt := 140) S.1 S.2.1 dX11_does_30 (by decide) (by rw [c15]; decide +kernel) ?_
      refine lv_aload_n S.1 S.2.1 dX11_does_140 rfl (lv_at hl 2 rfl) ?_
      refine lv_iload_n S.1 S.2.1 dX11_does_141 rfl (lv_at hl 1 rfl) ?_
      refine lv_iload_n S.1 S.2.1 dX11_does_142 rfl (lv_at hl 0 rfl) ?_
      refine mz_V S hG hM hS cf_10 k1 (As := [.int (mA μ a2 (((nI 3) * x1) + (nI 1)).toNatClampNeg), .int (mA μ a2 (((nI 3) * x1) + (nI 2)).toNatClampNeg)]) (rest := []) (c_X11_publishes h) yf_X11_publishes tw_1594 tw_1596 ts_30 ⟨Nat.le_of_ble_eq_true rfl, Nat.le_of_ble_eq_true rfl⟩ ⟨(Nat.le_of_ble_eq_true rfl), (Nat.le_of_ble_eq_true rfl)⟩ rfl hl.1 rfl (Nat.le_of_ble_eq_true rfl) dX11_does_143 (fun v9 μ21 H locs hp hM hS => ?_)
      obtain ⟨u20, rfl, h⟩ := hp
      refine W.cs (cells' := 0) (slots' := 0) rfl rfl ?_
      exact mz_iret S hr hlk hM hS rfl (Nat.le_of_ble_eq_true rfl) (Nat.le_of_ble_eq_true rfl) dX11_does_146 ⟨_, rfl, h⟩
    have h := h.2
    by_cases c16 : (mA μ a2 ((nI 3) * x1).toNatClampNeg) = nI 119
    · have h := h c16
      refine mz_table (tgt := 165) S.1 S.2.1 dX11_does_30 (by decide) (by rw [c16]; decide +kernel) ?_
      refine lv_aload_n S.1 S.2.1 dX11_does_165 rfl (lv_at hl 2 rfl) ?_
      refine lv_iload_n S.1 S.2.1 dX11_does_166 rfl (lv_at hl 1 rfl) ?_
      refine mz_V S hG hM hS cf_10 k1 (As := [.int (mA μ a2 (((nI 3) * x1) + (nI 1)).toNatClampNeg)]) (rest := []) (c_X11_blows h) yf_X11_blows tw_1642 tw_1644 ts_39 ⟨Nat.le_of_ble_eq_true rfl, Nat.le_of_ble_eq_true rfl⟩ ⟨(Nat.le_of_ble_eq_true rfl), (Nat.le_of_ble_eq_true rfl)⟩ rfl hl.1 rfl (Nat.le_of_ble_eq_true rfl) dX11_does_167 (fun v9 μ23 H locs hp hM hS => ?_)
      obtain ⟨u22, rfl, h⟩ := hp
      refine W.cs (cells' := 0) (slots' := 0) rfl rfl ?_
      exact mz_iret S hr hlk hM hS rfl (Nat.le_of_ble_eq_true rfl) (Nat.le_of_ble_eq_true rfl) dX11_does_170 ⟨_, rfl, h⟩
    exact absurd (by simp [c10, c11, c12, c13, c14, c15, c16]) c9
set_option maxRecDepth 100000 in
set_option maxHeartbeats 4000000 in
theorem c_X11_runScript {l : Launch} {G : mgT} {μ : mmT} {o : Nat} {Q : Int32 → mmT → Prop} (h : w_X11_runScript G μ o Q) : MC G l yX11_runScript cX11_runScript 3 (some .int) { frames := 8, cells := 0, slots := 0, locals := 175 } [.ref o] μ (pI Q) := by
  refine mz_MC (by decide +kernel) (Nat.le_of_ble_eq_true rfl) (fun p e s m args below meth c S hG hr hlk hnm => ?_)
  have hB88 : ∀ (μ : mmT) (H : Heap) (locs : List Loc) (ls : Array Slot), Mm G μ H → va_S (Ah G) s.heap H locs → lv_has ls 3 [(0, .ref o)] → w_X11_runScript_b88 G o Q  μ → W p l e { frames := 8, cells := 0, slots := 0, locals := 175 } s m args below meth c H locs 0 0 (MQ below (mQ G (pI Q)) args s 0 0 (Ah G)) (F0 m 88 ls []) := by
    intro  μ H locs ls hM hS hl h
    unfold w_X11_runScript_b88 at h
    refine lv_aload_n S.1 S.2.1 dX11_runScript_88 rfl (lv_at hl 0 rfl) ?_
    refine lv_aload_n S.1 S.2.1 dX11_runScript_89 rfl (lv_at hl 0 rfl) ?_
    obtain ⟨k9, h⟩ := h
    refine mz_geti S hG hM cf_10 fd_336 tw_1498 dX11_runScript_90 k9 ?_
    refine mz_puti S hG hM hS cf_10 fd_333 tw_1495 dX11_runScript_93 k9 rfl rfl (fun H locs hM hS hz9 => ?_)
    refine lv_aload_n S.1 S.2.1 dX11_runScript_96 rfl (lv_at hl 0 rfl) ?_
    refine lv_iconst (v := (nI 1)) S.1 S.2.1 dX11_runScript_97 (by decide) ?_
    refine mz_V S hG hM hS cf_10 k9 (As := [.int (nI 1)]) (rest := []) (c_X11_fails h) yf_X11_fails tw_1578 tw_1580 ts_28 ⟨Nat.le_of_ble_eq_true rfl, Nat.le_of_ble_eq_true rfl⟩ ⟨(Nat.le_of_ble_eq_true rfl), (Nat.le_of_ble_eq_true rfl)⟩ rfl hl.1 rfl (Nat.le_of_ble_eq_true rfl) dX11_runScript_98 (fun v9 μ11 H locs hp hM hS => ?_)
    obtain ⟨u10, rfl, h⟩ := hp
    refine W.cs (cells' := 0) (slots' := 0) rfl rfl ?_
    exact mz_iret S hr hlk hM hS rfl (Nat.le_of_ble_eq_true rfl) (Nat.le_of_ble_eq_true rfl) dX11_runScript_101 ⟨_, rfl, h⟩
  have hB125 : ∀ (n : Nat) (x1 : Int32) (x2 : Int32) (μ : mmT) (H : Heap) (locs : List Loc) (ls : Array Slot), Mm G μ H → va_S (Ah G) s.heap H locs → lv_has ls 3 [(0, .ref o), (1, .int x1), (2, .int x2)] → w_X11_runScript_l125 G o Q  n x1 x2 μ → W p l e { frames := 8, cells := 0, slots := 0, locals := 175 } s m args below meth c H locs 0 0 (MQ below (mQ G (pI Q)) args s 0 0 (Ah G)) (F0 m 125 ls []) := by
    intro  n
    induction n with
    | zero =>
      intro x1 x2 μ H locs ls hM hS hl h
      exact False.elim h
    | succ n ih =>
      intro x1 x2 μ H locs ls hM hS hl h
      have h : w_X11_runScript_b125 G o Q  (w_X11_runScript_l125 G o Q  n) x1 x2 μ := h
      unfold w_X11_runScript_b125 at h
      refine lv_iload_n S.1 S.2.1 dX11_runScript_125 rfl (lv_at hl 2 rfl) ?_
      refine lv_sipush (v := (nI 258)) S.1 S.2.1 dX11_runScript_126 (by decide) ?_
      refine lv_icmp_ge (tgt := 150) S.1 S.2.1 dX11_runScript_129 (by decide) (fun c20 => ?_) (fun c20 => ?_)
      · have h := h.1 c20
        refine lv_aload_n S.1 S.2.1 dX11_runScript_150 rfl (lv_at hl 0 rfl) ?_
        refine lv_iload_n S.1 S.2.1 dX11_runScript_151 rfl (lv_at hl 1 rfl) ?_
        obtain ⟨k21, h⟩ := h
        refine mz_puti S hG hM hS cf_10 fd_334 tw_1496 dX11_runScript_152 k21 rfl rfl (fun H locs hM hS hz9 => ?_)
        refine lv_aload_n S.1 S.2.1 dX11_runScript_155 rfl (lv_at hl 0 rfl) ?_
        refine lv_iconst (v := (nI 2)) S.1 S.2.1 dX11_runScript_156 (by decide) ?_
        refine mz_V S hG hM hS cf_10 k21 (As := [.int (nI 2)]) (rest := []) (c_X11_fails h) yf_X11_fails tw_1578 tw_1580 ts_28 ⟨Nat.le_of_ble_eq_true rfl, Nat.le_of_ble_eq_true rfl⟩ ⟨(Nat.le_of_ble_eq_true rfl), (Nat.le_of_ble_eq_true rfl)⟩ rfl hl.1 rfl (Nat.le_of_ble_eq_true rfl) dX11_runScript_157 (fun v9 μ23 H locs hp hM hS => ?_)
        obtain ⟨u22, rfl, h⟩ := hp
        refine W.cs (cells' := 0) (slots' := 0) rfl rfl ?_
        exact mz_iret S hr hlk hM hS rfl (Nat.le_of_ble_eq_true rfl) (Nat.le_of_ble_eq_true rfl) dX11_runScript_160 ⟨_, rfl, h⟩
      · have h := h.2 c20
        refine lv_aload_n S.1 S.2.1 dX11_runScript_132 rfl (lv_at hl 0 rfl) ?_
        obtain ⟨k24, h⟩ := h
        refine mz_getr S hG hM cf_10 fd_321 tw_1483 dX11_runScript_133 k24 ?_
        refine lv_iload_n S.1 S.2.1 dX11_runScript_136 rfl (lv_at hl 2 rfl) ?_
        refine lv_aload_n S.1 S.2.1 dX11_runScript_137 rfl (lv_at hl 0 rfl) ?_
        refine mz_getr S hG hM cf_10 fd_322 tw_1484 dX11_runScript_138 k24 ?_
        refine lv_iload_n S.1 S.2.1 dX11_runScript_141 rfl (lv_at hl 2 rfl) ?_
        obtain ⟨a25, e26, h⟩ := h
        refine mz_o1 e26 ?_
        obtain ⟨k27, h⟩ := h
        obtain ⟨b28, h⟩ := h
        refine mz_iald S hG hM dX11_runScript_142 k27 b28 ?_
        obtain ⟨a29, e30, h⟩ := h
        refine mz_o2 e30 ?_
        obtain ⟨k31, h⟩ := h
        obtain ⟨b32, h⟩ := h
        refine mz_iast S hG hM hS dX11_runScript_143 k31 b32 (fun H locs hM hS hz9 => ?_)
        refine lv_iinc (v := (x2 + nI 1)) (lv' := [(2, .int (x2 + nI 1)), (0, .ref o), (1, .int x1)]) S.1 S.2.1 dX11_runScript_144 hl (k := 2) rfl rfl (by decide) rfl (fun ls hl => ?_)
        refine lv_goto (tgt := 125) S.1 S.2.1 dX11_runScript_147 (by decide) ?_
        exact ih x1 (x2 + nI 1) (sA μ a29 x2.toNatClampNeg (mA μ a25 x2.toNatClampNeg)) H locs ls hM hS (lv_sub hl [1, 2, 0] rfl) h
  have hB104 : ∀ (n : Nat) (x1 : Int32) (μ : mmT) (H : Heap) (locs : List Loc) (ls : Array Slot), Mm G μ H → va_S (Ah G) s.heap H locs → lv_has ls 3 [(0, .ref o), (1, .int x1)] → w_X11_runScript_l104 G o Q  n x1 μ → W p l e { frames := 8, cells := 0, slots := 0, locals := 175 } s m args below meth c H locs 0 0 (MQ below (mQ G (pI Q)) args s 0 0 (Ah G)) (F0 m 104 ls []) := by
    intro  n
    induction n with
    | zero =>
      intro x1 μ H locs ls hM hS hl h
      exact False.elim h
    | succ n ih =>
      intro x1 μ H locs ls hM hS hl h
      have h : w_X11_runScript_b104 G o Q  (w_X11_runScript_l104 G o Q  n) x1 μ := h
      unfold w_X11_runScript_b104 at h
      refine lv_iload_n S.1 S.2.1 dX11_runScript_104 rfl (lv_at hl 1 rfl) ?_
      refine lv_aload_n S.1 S.2.1 dX11_runScript_105 rfl (lv_at hl 0 rfl) ?_
      obtain ⟨k13, h⟩ := h
      refine mz_geti S hG hM cf_10 fd_338 tw_1500 dX11_runScript_106 k13 ?_
      refine lv_icmp_ge (tgt := 167) S.1 S.2.1 dX11_runScript_109 (by decide) (fun c14 => ?_) (fun c14 => ?_)
      · have h := h.1 c14
        refine lv_aload_n S.1 S.2.1 dX11_runScript_167 rfl (lv_at hl 0 rfl) ?_
        refine lv_aload_n S.1 S.2.1 dX11_runScript_168 rfl (lv_at hl 0 rfl) ?_
        refine mz_geti S hG hM cf_10 fd_338 tw_1500 dX11_runScript_169 k13 ?_
        refine mz_V S hG hM hS cf_10 k13 (As := [.int (mI μ 338 o)]) (rest := []) (c_X11_changed h) yf_X11_changed tw_1574 tw_1576 ts_27 ⟨Nat.le_of_ble_eq_true rfl, Nat.le_of_ble_eq_true rfl⟩ ⟨(Nat.le_of_ble_eq_true rfl), (Nat.le_of_ble_eq_true rfl)⟩ rfl hl.1 rfl (Nat.le_of_ble_eq_true rfl) dX11_runScript_172 (fun v9 μ16 H locs hp hM hS => ?_)
        obtain ⟨u15, rfl, h⟩ := hp
        refine W.cs (cells' := 0) (slots' := 0) rfl rfl ?_
        exact mz_iret S hr hlk hM hS rfl (Nat.le_of_ble_eq_true rfl) (Nat.le_of_ble_eq_true rfl) dX11_runScript_175 ⟨_, rfl, h⟩
      · have h := h.2 c14
        refine lv_aload_n S.1 S.2.1 dX11_runScript_112 rfl (lv_at hl 0 rfl) ?_
        refine lv_iload_n S.1 S.2.1 dX11_runScript_113 rfl (lv_at hl 1 rfl) ?_
        refine mz_V S hG hM hS cf_10 k13 (As := [.int x1]) (rest := []) (c_X11_does h) yf_X11_does tw_1946 tw_1948 ts_62 ⟨Nat.le_of_ble_eq_true rfl, Nat.le_of_ble_eq_true rfl⟩ ⟨(Nat.le_of_ble_eq_true rfl), (Nat.le_of_ble_eq_true rfl)⟩ rfl hl.1 rfl (Nat.le_of_ble_eq_true rfl) dX11_runScript_114 (fun v9 μ18 H locs hp hM hS => ?_)
        obtain ⟨u17, rfl, h⟩ := hp
        refine W.cs (cells' := 0) (slots' := 0) rfl rfl ?_
        refine lv_if_ne (tgt := 123) S.1 S.2.1 dX11_runScript_117 (by decide) (fun c19 => ?_) (fun c19 => ?_)
        · have h := h.1 c19
          refine lv_iconst (v := (nI 0)) S.1 S.2.1 dX11_runScript_123 (by decide) ?_
          refine lv_istore_n (lv' := [(2, .int (nI 0)), (0, .ref o), (1, .int x1)]) S.1 S.2.1 dX11_runScript_124 rfl hl (by decide) rfl (fun ls hl => ?_)
          obtain ⟨n9, h⟩ := h
          exact hB125  n9 x1 (nI 0) μ18 H locs ls hM hS (lv_sub hl [1, 2, 0] rfl) h
        · have h := h.2 c19
          refine lv_goto (tgt := 161) S.1 S.2.1 dX11_runScript_120 (by decide) ?_
          refine lv_iinc (v := (x1 + nI 1)) (lv' := [(1, .int (x1 + nI 1)), (0, .ref o)]) S.1 S.2.1 dX11_runScript_161 hl (k := 1) rfl rfl (by decide) rfl (fun ls hl => ?_)
          refine lv_goto (tgt := 104) S.1 S.2.1 dX11_runScript_164 (by decide) ?_
          exact ih (x1 + nI 1) μ18 H locs ls hM hS (lv_sub hl [1, 0] rfl) h
  have hB70 : ∀ (μ : mmT) (H : Heap) (locs : List Loc) (ls : Array Slot), Mm G μ H → va_S (Ah G) s.heap H locs → lv_has ls 3 [(0, .ref o)] → w_X11_runScript_b70 G o Q  μ → W p l e { frames := 8, cells := 0, slots := 0, locals := 175 } s m args below meth c H locs 0 0 (MQ below (mQ G (pI Q)) args s 0 0 (Ah G)) (F0 m 70 ls []) := by
    intro  μ H locs ls hM hS hl h
    unfold w_X11_runScript_b70 at h
    refine lv_aload_n S.1 S.2.1 dX11_runScript_70 rfl (lv_at hl 0 rfl) ?_
    obtain ⟨k7, h⟩ := h
    refine mz_geti S hG hM cf_10 fd_339 tw_1501 dX11_runScript_71 k7 ?_
    refine lv_if_ne (tgt := 88) S.1 S.2.1 dX11_runScript_74 (by decide) (fun c8 => ?_) (fun c8 => ?_)
    · have h := h.1 c8
      exact hB88  μ H locs ls hM hS (lv_sub hl [0] rfl) h
    · have h := h.2 c8
      refine lv_aload_n S.1 S.2.1 dX11_runScript_77 rfl (lv_at hl 0 rfl) ?_
      refine mz_geti S hG hM cf_10 fd_336 tw_1498 dX11_runScript_78 k7 ?_
      refine lv_aload_n S.1 S.2.1 dX11_runScript_81 rfl (lv_at hl 0 rfl) ?_
      refine mz_geti S hG hM cf_10 fd_337 tw_1499 dX11_runScript_82 k7 ?_
      refine lv_icmp_ge (tgt := 102) S.1 S.2.1 dX11_runScript_85 (by decide) (fun c12 => ?_) (fun c12 => ?_)
      · have h := h.1 c12
        refine lv_iconst (v := (nI 0)) S.1 S.2.1 dX11_runScript_102 (by decide) ?_
        refine lv_istore_n (lv' := [(1, .int (nI 0)), (0, .ref o)]) S.1 S.2.1 dX11_runScript_103 rfl hl (by decide) rfl (fun ls hl => ?_)
        obtain ⟨n9, h⟩ := h
        exact hB104  n9 (nI 0) μ H locs ls hM hS (lv_sub hl [1, 0] rfl) h
      · have h := h.2 c12
        exact hB88  μ H locs ls hM hS (lv_sub hl [0] rfl) h
  have hB36 : ∀ (n : Nat) (μ : mmT) (H : Heap) (locs : List Loc) (ls : Array Slot), Mm G μ H → va_S (Ah G) s.heap H locs → lv_has ls 3 [(0, .ref o)] → w_X11_runScript_l36 G o Q  n μ → W p l e { frames := 8, cells := 0, slots := 0, locals := 175 } s m args below meth c H locs 0 0 (MQ below (mQ G (pI Q)) args s 0 0 (Ah G)) (F0 m 36 ls []) := by
    intro  n
    induction n with
    | zero =>
      intro μ H locs ls hM hS hl h
      exact False.elim h
    | succ n ih =>
      intro μ H locs ls hM hS hl h
      have h : w_X11_runScript_b36 G o Q  (w_X11_runScript_l36 G o Q  n) μ := h
      unfold w_X11_runScript_b36 at h
      refine lv_aload_n S.1 S.2.1 dX11_runScript_36 rfl (lv_at hl 0 rfl) ?_
      obtain ⟨k5, h⟩ := h
      refine mz_geti S hG hM cf_10 fd_339 tw_1501 dX11_runScript_37 k5 ?_
      refine lv_if_ne (tgt := 70) S.1 S.2.1 dX11_runScript_40 (by decide) (fun c6 => ?_) (fun c6 => ?_)
      · have h := h.1 c6
        exact hB70  μ H locs ls hM hS (lv_sub hl [0] rfl) h
      · have h := h.2 c6
        refine lv_aload_n S.1 S.2.1 dX11_runScript_43 rfl (lv_at hl 0 rfl) ?_
        refine lv_iconst (v := (nI 0)) S.1 S.2.1 dX11_runScript_44 (by decide) ?_
        refine mz_V S hG hM hS cf_10 k5 (As := [.int (nI 0)]) (rest := []) (c_X11_here h) yf_X11_here tw_1919 tw_1921 ts_58 ⟨Nat.le_of_ble_eq_true rfl, Nat.le_of_ble_eq_true rfl⟩ ⟨(Nat.le_of_ble_eq_true rfl), (Nat.le_of_ble_eq_true rfl)⟩ rfl hl.1 rfl (Nat.le_of_ble_eq_true rfl) dX11_runScript_45 (fun v9 μ9 H locs hp hM hS => ?_)
        obtain ⟨u33, rfl, e9, h⟩ := hp
        rw [e9] at hM
        refine W.cs (cells' := 0) (slots' := 0) rfl rfl ?_
        refine lv_bipush (v := (nI 59)) S.1 S.2.1 dX11_runScript_48 (by decide) ?_
        refine lv_icmp_ne (tgt := 70) S.1 S.2.1 dX11_runScript_50 (by decide) (fun c34 => ?_) (fun c34 => ?_)
        · have h := h.1 c34
          exact hB70  μ H locs ls hM hS (lv_sub hl [0] rfl) h
        · have h := h.2 c34
          refine lv_aload_n S.1 S.2.1 dX11_runScript_53 rfl (lv_at hl 0 rfl) ?_
          refine lv_dup S.1 S.2.1 dX11_runScript_54 rfl ?_
          refine mz_geti S hG hM cf_10 fd_336 tw_1498 dX11_runScript_55 k5 ?_
          refine lv_iconst (v := (nI 1)) S.1 S.2.1 dX11_runScript_58 (by decide) ?_
          refine lv_iadd S.1 S.2.1 dX11_runScript_59 ?_
          refine mz_puti S hG hM hS cf_10 fd_336 tw_1498 dX11_runScript_60 k5 rfl rfl (fun H locs hM hS hz9 => ?_)
          refine lv_aload_n S.1 S.2.1 dX11_runScript_63 rfl (lv_at hl 0 rfl) ?_
          refine mz_V S hG hM hS cf_10 k5 (As := []) (rest := []) (c_X11_readsOne h) yf_X11_readsOne tw_1915 tw_1917 ts_57 ⟨Nat.le_of_ble_eq_true rfl, Nat.le_of_ble_eq_true rfl⟩ ⟨(Nat.le_of_ble_eq_true rfl), (Nat.le_of_ble_eq_true rfl)⟩ rfl hl.1 rfl (Nat.le_of_ble_eq_true rfl) dX11_runScript_64 (fun v9 μ35 H locs hp hM hS => ?_)
          obtain ⟨rfl, h⟩ := hp
          refine W.cs (cells' := 0) (slots' := 0) rfl rfl ?_
          refine lv_goto (tgt := 36) S.1 S.2.1 dX11_runScript_67 (by decide) ?_
          exact ih μ35 H locs ls hM hS (lv_sub hl [0] rfl) h
  intro H locs ls hM hS hl
  have hl : lv_has ls 3 [(0, .ref o)] := hl
  unfold w_X11_runScript at h
  refine lv_aload_n S.1 S.2.1 dX11_runScript_0 rfl (lv_at hl 0 rfl) ?_
  obtain ⟨k1, h⟩ := h
  refine mz_V S hG hM hS cf_10 k1 (As := []) (rest := []) (c_X11_remembersAll h) yf_X11_remembersAll tw_1551 tw_1553 ts_22 ⟨Nat.le_of_ble_eq_true rfl, Nat.le_of_ble_eq_true rfl⟩ ⟨(Nat.le_of_ble_eq_true rfl), (Nat.le_of_ble_eq_true rfl)⟩ rfl hl.1 rfl (Nat.le_of_ble_eq_true rfl) dX11_runScript_1 (fun v9 μ2 H locs hp hM hS => ?_)
  obtain ⟨rfl, h⟩ := hp
  refine W.cs (cells' := 0) (slots' := 0) rfl rfl ?_
  refine lv_aload_n S.1 S.2.1 dX11_runScript_4 rfl (lv_at hl 0 rfl) ?_
  refine lv_iconst (v := (nI 0)) S.1 S.2.1 dX11_runScript_5 (by decide) ?_
  obtain ⟨k3, h⟩ := h
  refine mz_puti S hG hM hS cf_10 fd_336 tw_1498 dX11_runScript_6 k3 rfl rfl (fun H locs hM hS hz9 => ?_)
  refine lv_aload_n S.1 S.2.1 dX11_runScript_9 rfl (lv_at hl 0 rfl) ?_
  refine lv_aload_n S.1 S.2.1 dX11_runScript_10 rfl (lv_at hl 0 rfl) ?_
  refine mz_geti S hG hM cf_10 fd_331 tw_1493 dX11_runScript_11 k3 ?_
  refine mz_puti S hG hM hS cf_10 fd_337 tw_1499 dX11_runScript_14 k3 rfl rfl (fun H locs hM hS hz9 => ?_)
  refine lv_aload_n S.1 S.2.1 dX11_runScript_17 rfl (lv_at hl 0 rfl) ?_
  refine lv_iconst (v := (nI 0)) S.1 S.2.1 dX11_runScript_18 (by decide) ?_
  refine mz_puti S hG hM hS cf_10 fd_331 tw_1493 dX11_runScript_19 k3 rfl rfl (fun H locs hM hS hz9 => ?_)
  refine lv_aload_n S.1 S.2.1 dX11_runScript_22 rfl (lv_at hl 0 rfl) ?_
  refine lv_iconst (v := (nI 0)) S.1 S.2.1 dX11_runScript_23 (by decide) ?_
  refine mz_puti S hG hM hS cf_10 fd_338 tw_1500 dX11_runScript_24 k3 rfl rfl (fun H locs hM hS hz9 => ?_)
  refine lv_aload_n S.1 S.2.1 dX11_runScript_27 rfl (lv_at hl 0 rfl) ?_
  refine lv_iconst (v := (nI 0)) S.1 S.2.1 dX11_runScript_28 (by decide) ?_
  refine mz_puti S hG hM hS cf_10 fd_339 tw_1501 dX11_runScript_29 k3 rfl rfl (fun H locs hM hS hz9 => ?_)
  refine lv_aload_n S.1 S.2.1 dX11_runScript_32 rfl (lv_at hl 0 rfl) ?_
  refine mz_V S hG hM hS cf_10 k3 (As := []) (rest := []) (c_X11_readsOne h) yf_X11_readsOne tw_1915 tw_1917 ts_57 ⟨Nat.le_of_ble_eq_true rfl, Nat.le_of_ble_eq_true rfl⟩ ⟨(Nat.le_of_ble_eq_true rfl), (Nat.le_of_ble_eq_true rfl)⟩ rfl hl.1 rfl (Nat.le_of_ble_eq_true rfl) dX11_runScript_33 (fun v9 μ4 H locs hp hM hS => ?_)
  obtain ⟨rfl, h⟩ := hp
  refine W.cs (cells' := 0) (slots' := 0) rfl rfl ?_
  obtain ⟨n9, h⟩ := h
  exact hB36  n9 μ4 H locs ls hM hS (lv_sub hl [0] rfl) h
set_option maxRecDepth 100000 in
set_option maxHeartbeats 4000000 in
theorem c_X11_errorPosition {l : Launch} {G : mgT} {μ : mmT} {o : Nat} {Q : Int32 → mmT → Prop} (h : w_X11_errorPosition G μ o Q) : MC G l yX11_errorPosition cX11_errorPosition 1 (some .int) { frames := 1, cells := 0, slots := 0, locals := 21 } [.ref o] μ (pI Q) := by
  refine mz_MC (by decide +kernel) (Nat.le_of_ble_eq_true rfl) (fun p e s m args below meth c S hG hr hlk hnm => ?_)
  have hB25 : ∀ (s0 : Int32) (μ : mmT) (H : Heap) (locs : List Loc) (ls : Array Slot), Mm G μ H → va_S (Ah G) s.heap H locs → lv_has ls 1 [(0, .ref o)] → w_X11_errorPosition_b25 G o Q  s0 μ → W p l e { frames := 1, cells := 0, slots := 0, locals := 21 } s m args below meth c H locs 0 0 (MQ below (mQ G (pI Q)) args s 0 0 (Ah G)) (F0 m 25 ls [.int s0]) := by
    intro  s0 μ H locs ls hM hS hl h
    unfold w_X11_errorPosition_b25 at h
    exact mz_iret S hr hlk hM hS rfl (Nat.le_of_ble_eq_true rfl) (Nat.le_of_ble_eq_true rfl) dX11_errorPosition_25 ⟨_, rfl, h⟩
  intro H locs ls hM hS hl
  have hl : lv_has ls 1 [(0, .ref o)] := hl
  unfold w_X11_errorPosition at h
  refine lv_aload_n S.1 S.2.1 dX11_errorPosition_0 rfl (lv_at hl 0 rfl) ?_
  refine lv_iconst (v := (nI 0)) S.1 S.2.1 dX11_errorPosition_1 (by decide) ?_
  obtain ⟨k1, h⟩ := h
  refine mz_puti S hG hM hS cf_10 fd_320 tw_1482 dX11_errorPosition_2 k1 rfl rfl (fun H locs hM hS hz9 => ?_)
  refine lv_aload_n S.1 S.2.1 dX11_errorPosition_5 rfl (lv_at hl 0 rfl) ?_
  refine mz_geti S hG hM cf_10 fd_333 tw_1495 dX11_errorPosition_6 k1 ?_
  refine lv_iconst (v := (-1)) S.1 S.2.1 dX11_errorPosition_9 (by decide) ?_
  refine lv_icmp_ne (tgt := 21) S.1 S.2.1 dX11_errorPosition_10 (by decide) (fun c2 => ?_) (fun c2 => ?_)
  · have h := h.1 c2
    refine lv_aload_n S.1 S.2.1 dX11_errorPosition_21 rfl (lv_at hl 0 rfl) ?_
    refine mz_geti S hG hM cf_10 fd_333 tw_1495 dX11_errorPosition_22 k1 ?_
    exact hB25  (mI (sI μ 320 o (nI 0)) 333 o) (sI μ 320 o (nI 0)) H locs ls hM hS (lv_sub hl [0] rfl) h
  · have h := h.2 c2
    refine lv_aload_n S.1 S.2.1 dX11_errorPosition_13 rfl (lv_at hl 0 rfl) ?_
    refine lv_iconst (v := (nI 1)) S.1 S.2.1 dX11_errorPosition_14 (by decide) ?_
    refine mz_V S hG hM hS cf_10 k1 (As := [.int (nI 1)]) (rest := []) (c_X11_fails h) yf_X11_fails tw_1578 tw_1580 ts_28 ⟨Nat.le_of_ble_eq_true rfl, Nat.le_of_ble_eq_true rfl⟩ ⟨(Nat.le_of_ble_eq_true rfl), (Nat.le_of_ble_eq_true rfl)⟩ rfl hl.1 rfl (Nat.le_of_ble_eq_true rfl) dX11_errorPosition_15 (fun v9 μ4 H locs hp hM hS => ?_)
    obtain ⟨u3, rfl, h⟩ := hp
    refine W.cs (cells' := 0) (slots' := 0) rfl rfl ?_
    refine lv_goto (tgt := 25) S.1 S.2.1 dX11_errorPosition_18 (by decide) ?_
    exact hB25  u3 μ4 H locs ls hM hS (lv_sub hl [0] rfl) h

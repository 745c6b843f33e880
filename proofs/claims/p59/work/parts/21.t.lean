set_option maxRecDepth 100000 in
set_option maxHeartbeats 4000000 in
theorem c_X8_arrive {l : Launch} {G : mgT} {μ : mmT} {o : Nat} {x1 : Int32} {Q : mmT → Prop} (h : w_X8_arrive G μ o x1 Q) : MC G l yX8_arrive cX8_arrive 5 none { frames := 3, cells := 0, slots := 0, locals := 103 } [.ref o, .int x1] μ (pV Q) := by
  refine mz_MC (by decide +kernel) (Nat.le_of_ble_eq_true rfl) (fun p e s m args below meth c S hG hr hlk hnm => ?_)
  have hB191 : ∀ (μ : mmT) (H : Heap) (locs : List Loc) (ls : Array Slot), Mm G μ H → va_S (Ah G) s.heap H locs → lv_has ls 5 [(0, .ref o)] → w_X8_arrive_b191 G o Q  μ → W p l e { frames := 3, cells := 0, slots := 0, locals := 103 } s m args below meth c H locs (0) (0) (MQ below (mQ G (pV Q)) args s 0 0 (Ah G)) (F0 m 191 ls []) := by
    intro  μ H locs ls hM hS hl h
    unfold w_X8_arrive_b191 at h
    exact mz_vret S hr hlk hM hS (Nat.le_of_ble_eq_true rfl) (Nat.le_of_ble_eq_true rfl) dX8_arrive_191 ⟨rfl, h⟩
  have hB139 : ∀ (x1 : Int32) (r2 : Option Nat) (μ : mmT) (H : Heap) (locs : List Loc) (ls : Array Slot), Mm G μ H → va_S (Ah G) s.heap H locs → lv_has ls 5 [(0, .ref o), (1, .int x1), (2, va_rf r2)] → w_X8_arrive_b139 G o Q  x1 r2 μ → W p l e { frames := 3, cells := 0, slots := 0, locals := 103 } s m args below meth c H locs (0) (0) (MQ below (mQ G (pV Q)) args s 0 0 (Ah G)) (F0 m 139 ls []) := by
    intro  x1 r2 μ H locs ls hM hS hl h
    unfold w_X8_arrive_b139 at h
    refine mz_aload_n (x := r2) S.1 S.2.1 dX8_arrive_139 rfl (lv_at hl 2 rfl) ?_
    obtain ⟨a15, e16, h⟩ := h
    refine mz_o0 e16 ?_
    obtain ⟨k17, h⟩ := h
    refine mz_geti S hG hM cf_4 fd_131 tw_171 dX8_arrive_140 k17 ?_
    refine lv_iconst (v := (nI 5)) S.1 S.2.1 dX8_arrive_143 (by decide) ?_
    refine lv_icmp_lt (tgt := 168) S.1 S.2.1 dX8_arrive_144 (by decide) (fun c18 => ?_) (fun c18 => ?_)
    · have h := h.1 c18
      refine mz_aload_n (x := r2) S.1 S.2.1 dX8_arrive_168 rfl (lv_at hl 2 rfl) ?_
      refine lv_bipush (v := (nI 110)) S.1 S.2.1 dX8_arrive_169 (by decide) ?_
      refine mz_o1 e16 ?_
      refine mz_puti S hG hM hS cf_4 fd_132 tw_174 dX8_arrive_171 k17 (mz_nC ⟨110, by decide, rfl⟩) (mz_fC ⟨110, by decide, rfl⟩) (fun H locs hM hS hz9 => ?_)
      refine mz_aload_n (x := r2) S.1 S.2.1 dX8_arrive_174 rfl (lv_at hl 2 rfl) ?_
      refine lv_aload_n S.1 S.2.1 dX8_arrive_175 rfl (lv_at hl 0 rfl) ?_
      obtain ⟨k19, h⟩ := h
      refine mz_geti S hG hM cf_7 fd_231 tw_204 dX8_arrive_176 k19 ?_
      refine mz_aload_n (x := r2) S.1 S.2.1 dX8_arrive_179 rfl (lv_at hl 2 rfl) ?_
      refine mz_o0 e16 ?_
      refine mz_geti S hG hM cf_4 fd_131 tw_171 dX8_arrive_180 k17 ?_
      refine mz_SN (host := "CrowMail") S hG hM hS (As := [.int (mI (sI μ 132 a15 (nI 110)) 131 a15)]) (rest := [.int (mI (sI μ 132 a15 (nI 110)) 231 o), va_rf r2]) (c_X10_shiftedNap h) yf_X10_shiftedNap (List.mem_of_getElem? (i := 604) (by decide +kernel)) tw_605 ⟨Nat.le_of_ble_eq_true rfl, Nat.le_of_ble_eq_true rfl⟩ ⟨(Nat.le_of_ble_eq_true rfl), (Nat.le_of_ble_eq_true rfl)⟩ rfl hl.1 rfl (by simp [mz_cat, mz_cr, mz_ci, mz_cl, mz_cf, mz_cd, mz_cn]) dX8_arrive_183 (fun v9 μ9 H locs hp hM hS => ?_)
      obtain ⟨u20, rfl, e9, h⟩ := hp
      rw [e9] at hM
      refine W.cs (cells' := 0) (slots' := 0) rfl rfl ?_
      refine lv_l2i S.1 S.2.1 dX8_arrive_186 rfl ?_
      refine lv_iadd S.1 S.2.1 dX8_arrive_187 ?_
      refine mz_o1 e16 ?_
      refine mz_puti S hG hM hS cf_4 fd_133 tw_177 dX8_arrive_188 k17 rfl rfl (fun H locs hM hS hz9 => ?_)
      exact hB191  (sI (sI μ 132 a15 (nI 110)) 133 a15 ((mI (sI μ 132 a15 (nI 110)) 231 o) + u20.toInt32)) H locs ls hM hS (lv_sub hl [0] rfl) h
    · have h := h.2 c18
      refine lv_aload_n S.1 S.2.1 dX8_arrive_147 rfl (lv_at hl 0 rfl) ?_
      refine lv_iload_n S.1 S.2.1 dX8_arrive_148 rfl (lv_at hl 1 rfl) ?_
      obtain ⟨k21, h⟩ := h
      refine mz_V S hG hM hS cf_7 k21 (As := [.int x1]) (rest := []) (c_X8_remove h) yf_X8_remove tw_587 tw_589 ts_6 ⟨Nat.le_of_ble_eq_true rfl, Nat.le_of_ble_eq_true rfl⟩ ⟨(Nat.le_of_ble_eq_true rfl), (Nat.le_of_ble_eq_true rfl)⟩ rfl hl.1 rfl (Nat.le_of_ble_eq_true rfl) dX8_arrive_149 (fun v9 μ22 H locs hp hM hS => ?_)
      obtain ⟨rfl, h⟩ := hp
      refine W.cs (cells' := 0) (slots' := 0) rfl rfl ?_
      refine lv_aload_n S.1 S.2.1 dX8_arrive_152 rfl (lv_at hl 0 rfl) ?_
      obtain ⟨k23, h⟩ := h
      refine mz_getr S hG hM cf_7 fd_227 tw_196 dX8_arrive_153 k23 ?_
      refine lv_dup S.1 S.2.1 dX8_arrive_156 (mz_cat _) ?_
      obtain ⟨a24, e25, h⟩ := h
      refine mz_o0 e25 ?_
      obtain ⟨k26, h⟩ := h
      refine mz_geti S hG hM cf_8 fd_260 tw_75 dX8_arrive_157 k26 ?_
      refine lv_iconst (v := (nI 1)) S.1 S.2.1 dX8_arrive_160 (by decide) ?_
      refine lv_iadd S.1 S.2.1 dX8_arrive_161 ?_
      refine mz_o1 e25 ?_
      refine mz_puti S hG hM hS cf_8 fd_260 tw_75 dX8_arrive_162 k26 rfl rfl (fun H locs hM hS hz9 => ?_)
      refine lv_goto (tgt := 191) S.1 S.2.1 dX8_arrive_165 (by decide) ?_
      exact hB191  (sI μ22 260 a24 ((mI μ22 260 a24) + (nI 1))) H locs ls hM hS (lv_sub hl [0] rfl) h
  have hB96 : ∀ (x1 : Int32) (r2 : Option Nat) (r3 : Option Nat) (x4 : Int32) (μ : mmT) (H : Heap) (locs : List Loc) (ls : Array Slot), Mm G μ H → va_S (Ah G) s.heap H locs → lv_has ls 5 [(0, .ref o), (1, .int x1), (2, va_rf r2), (3, va_rf r3), (4, .int x4)] → w_X8_arrive_b96 G o Q  x1 r2 r3 x4 μ → W p l e { frames := 3, cells := 0, slots := 0, locals := 103 } s m args below meth c H locs (0) (0) (MQ below (mQ G (pV Q)) args s 0 0 (Ah G)) (F0 m 96 ls []) := by
    intro  x1 r2 r3 x4 μ H locs ls hM hS hl h
    unfold w_X8_arrive_b96 at h
    refine lv_iload S.1 S.2.1 dX8_arrive_96 (lv_at hl 4 rfl) ?_
    refine lv_if_ne (tgt := 139) S.1 S.2.1 dX8_arrive_98 (by decide) (fun c14 => ?_) (fun c14 => ?_)
    · have h := h.1 c14
      exact hB139  x1 r2 μ H locs ls hM hS (lv_sub hl [0, 1, 2] rfl) h
    · have h := h.2 c14
      refine mz_aload_n (x := r3) S.1 S.2.1 dX8_arrive_101 rfl (lv_at hl 3 rfl) ?_
      obtain ⟨a27, e28, h⟩ := h
      refine mz_o0 e28 ?_
      obtain ⟨k29, h⟩ := h
      refine mz_V S hG hM hS cf_5 k29 (As := []) (rest := []) (c_X6_hasRoom h) yf_X6_hasRoom tw_591 tw_592 tw_593 ⟨Nat.le_of_ble_eq_true rfl, Nat.le_of_ble_eq_true rfl⟩ ⟨(Nat.le_of_ble_eq_true rfl), (Nat.le_of_ble_eq_true rfl)⟩ rfl hl.1 rfl (Nat.le_of_ble_eq_true rfl) dX8_arrive_102 (fun v9 μ9 H locs hp hM hS => ?_)
      obtain ⟨u30, rfl, e9, h⟩ := hp
      rw [e9] at hM
      refine W.cs (cells' := 0) (slots' := 0) rfl rfl ?_
      refine lv_if_eq (tgt := 139) S.1 S.2.1 dX8_arrive_105 (by decide) (fun c31 => ?_) (fun c31 => ?_)
      · have h := h.1 c31
        exact hB139  x1 r2 μ H locs ls hM hS (lv_sub hl [0, 1, 2] rfl) h
      · have h := h.2 c31
        refine mz_aload_n (x := r3) S.1 S.2.1 dX8_arrive_108 rfl (lv_at hl 3 rfl) ?_
        refine lv_iload_n S.1 S.2.1 dX8_arrive_109 rfl (lv_at hl 1 rfl) ?_
        refine mz_aload_n (x := r2) S.1 S.2.1 dX8_arrive_110 rfl (lv_at hl 2 rfl) ?_
        obtain ⟨a32, e33, h⟩ := h
        refine mz_o0 e33 ?_
        obtain ⟨k34, h⟩ := h
        refine mz_geti S hG hM cf_4 fd_130 tw_168 dX8_arrive_111 k34 ?_
        refine mz_o2 e28 ?_
        refine mz_V S hG hM hS cf_5 k29 (As := [.int x1, .int (mI μ 130 a32)]) (rest := []) (c_X6_accept h) yf_X6_accept tw_595 tw_596 tw_597 ⟨Nat.le_of_ble_eq_true rfl, Nat.le_of_ble_eq_true rfl⟩ ⟨(Nat.le_of_ble_eq_true rfl), (Nat.le_of_ble_eq_true rfl)⟩ rfl hl.1 rfl (Nat.le_of_ble_eq_true rfl) dX8_arrive_114 (fun v9 μ35 H locs hp hM hS => ?_)
        obtain ⟨rfl, h⟩ := hp
        refine W.cs (cells' := 0) (slots' := 0) rfl rfl ?_
        refine mz_aload_n (x := r2) S.1 S.2.1 dX8_arrive_117 rfl (lv_at hl 2 rfl) ?_
        refine lv_bipush (v := (nI 100)) S.1 S.2.1 dX8_arrive_118 (by decide) ?_
        refine mz_o1 e33 ?_
        obtain ⟨k36, h⟩ := h
        refine mz_puti S hG hM hS cf_4 fd_132 tw_174 dX8_arrive_120 k36 (mz_nC ⟨100, by decide, rfl⟩) (mz_fC ⟨100, by decide, rfl⟩) (fun H locs hM hS hz9 => ?_)
        refine lv_aload_n S.1 S.2.1 dX8_arrive_123 rfl (lv_at hl 0 rfl) ?_
        obtain ⟨k37, h⟩ := h
        refine mz_getr S hG hM cf_7 fd_227 tw_196 dX8_arrive_124 k37 ?_
        refine lv_dup S.1 S.2.1 dX8_arrive_127 (mz_cat _) ?_
        obtain ⟨a38, e39, h⟩ := h
        refine mz_o0 e39 ?_
        obtain ⟨k40, h⟩ := h
        refine mz_geti S hG hM cf_8 fd_257 tw_66 dX8_arrive_128 k40 ?_
        refine lv_iconst (v := (nI 1)) S.1 S.2.1 dX8_arrive_131 (by decide) ?_
        refine lv_iadd S.1 S.2.1 dX8_arrive_132 ?_
        refine mz_o1 e39 ?_
        refine mz_puti S hG hM hS cf_8 fd_257 tw_66 dX8_arrive_133 k40 rfl rfl (fun H locs hM hS hz9 => ?_)
        refine lv_goto (tgt := 191) S.1 S.2.1 dX8_arrive_136 (by decide) ?_
        exact hB191  (sI (sI μ35 132 a32 (nI 100)) 257 a38 ((mI (sI μ35 132 a32 (nI 100)) 257 a38) + (nI 1))) H locs ls hM hS (lv_sub hl [0] rfl) h
  intro H locs ls hM hS hl
  have hl : lv_has ls 5 [(0, .ref o), (1, .int x1)] := hl
  unfold w_X8_arrive at h
  refine lv_aload_n S.1 S.2.1 dX8_arrive_0 rfl (lv_at hl 0 rfl) ?_
  refine lv_iload_n S.1 S.2.1 dX8_arrive_1 rfl (lv_at hl 1 rfl) ?_
  obtain ⟨k1, h⟩ := h
  refine mz_V S hG hM hS cf_7 k1 (As := [.int x1]) (rest := []) (c_X8_messageWith h) yf_X8_messageWith tw_574 tw_495 tw_496 ⟨Nat.le_of_ble_eq_true rfl, Nat.le_of_ble_eq_true rfl⟩ ⟨(Nat.le_of_ble_eq_true rfl), (Nat.le_of_ble_eq_true rfl)⟩ rfl hl.1 rfl (Nat.le_of_ble_eq_true rfl) dX8_arrive_2 (fun v9 μ9 H locs hp hM hS => ?_)
  obtain ⟨ru2, rfl, e9, h⟩ := hp
  rw [e9] at hM
  refine W.cs (cells' := 0) (slots' := 0) rfl rfl ?_
  refine mz_astore_n (x := ru2) (lv' := [(2, va_rf ru2), (0, .ref o), (1, .int x1)]) S.1 S.2.1 dX8_arrive_5 rfl hl (by decide) rfl (fun ls hl => ?_)
  refine mz_aload_n (x := ru2) S.1 S.2.1 dX8_arrive_6 rfl (lv_at hl 0 rfl) ?_
  refine mz_ifnonnull (tgt := 11) S.1 S.2.1 dX8_arrive_7 (by decide) (fun a3 e4 => ?_) (fun e4 => ?_)
  · have h := h.2 a3 e4
    refine lv_aload_n S.1 S.2.1 dX8_arrive_11 rfl (lv_at hl 1 rfl) ?_
    refine mz_aload_n (x := ru2) S.1 S.2.1 dX8_arrive_12 rfl (lv_at hl 0 rfl) ?_
    refine mz_o0 e4 ?_
    obtain ⟨k5, h⟩ := h
    refine mz_geti S hG hM cf_4 fd_129 tw_165 dX8_arrive_13 k5 ?_
    refine mz_V S hG hM hS cf_7 k1 (As := [.int (mI μ 129 a3)]) (rest := []) (c_X8_nestAt h) yf_X8_nestAt tw_575 tw_576 tw_577 ⟨Nat.le_of_ble_eq_true rfl, Nat.le_of_ble_eq_true rfl⟩ ⟨(Nat.le_of_ble_eq_true rfl), (Nat.le_of_ble_eq_true rfl)⟩ rfl hl.1 rfl (Nat.le_of_ble_eq_true rfl) dX8_arrive_16 (fun v9 μ9 H locs hp hM hS => ?_)
    obtain ⟨ru6, rfl, e9, h⟩ := hp
    rw [e9] at hM
    refine W.cs (cells' := 0) (slots' := 0) rfl rfl ?_
    refine mz_astore_n (x := ru6) (i := 3) (lv' := [(3, va_rf ru6), (2, va_rf ru2), (0, .ref o), (1, .int x1)]) S.1 S.2.1 dX8_arrive_19 rfl hl (by decide) (by simp [List.filter, mz_cat]) (fun ls hl => ?_)
    refine mz_aload_n (x := ru6) S.1 S.2.1 dX8_arrive_20 rfl (lv_at hl 0 rfl) ?_
    refine mz_ifnonnull (tgt := 25) S.1 S.2.1 dX8_arrive_21 (by decide) (fun a7 e8 => ?_) (fun e8 => ?_)
    · have h := h.2 a7 e8
      refine mz_aload_n (x := ru2) S.1 S.2.1 dX8_arrive_25 rfl (lv_at hl 1 rfl) ?_
      refine lv_dup S.1 S.2.1 dX8_arrive_26 (mz_cat _) ?_
      refine mz_o0 e4 ?_
      refine mz_geti S hG hM cf_4 fd_131 tw_171 dX8_arrive_27 k5 ?_
      refine lv_iconst (v := (nI 1)) S.1 S.2.1 dX8_arrive_30 (by decide) ?_
      refine lv_iadd S.1 S.2.1 dX8_arrive_31 ?_
      refine mz_o1 e4 ?_
      refine mz_puti S hG hM hS cf_4 fd_131 tw_171 dX8_arrive_32 k5 rfl rfl (fun H locs hM hS hz9 => ?_)
      refine lv_aload_n S.1 S.2.1 dX8_arrive_35 rfl (lv_at hl 2 rfl) ?_
      refine mz_getr S hG hM cf_7 fd_227 tw_196 dX8_arrive_36 k1 ?_
      refine lv_dup S.1 S.2.1 dX8_arrive_39 (mz_cat _) ?_
      obtain ⟨a9, e10, h⟩ := h
      refine mz_o0 e10 ?_
      obtain ⟨k11, h⟩ := h
      refine mz_geti S hG hM cf_8 fd_262 tw_80 dX8_arrive_40 k11 ?_
      refine lv_iconst (v := (nI 1)) S.1 S.2.1 dX8_arrive_43 (by decide) ?_
      refine lv_iadd S.1 S.2.1 dX8_arrive_44 ?_
      refine mz_o1 e10 ?_
      refine mz_puti S hG hM hS cf_8 fd_262 tw_80 dX8_arrive_45 k11 rfl rfl (fun H locs hM hS hz9 => ?_)
      refine lv_aload_n S.1 S.2.1 dX8_arrive_48 rfl (lv_at hl 2 rfl) ?_
      refine mz_aload_n (x := ru2) S.1 S.2.1 dX8_arrive_49 rfl (lv_at hl 1 rfl) ?_
      refine mz_aload_n (x := ru2) S.1 S.2.1 dX8_arrive_50 rfl (lv_at hl 1 rfl) ?_
      refine mz_o0 e4 ?_
      refine mz_geti S hG hM cf_4 fd_131 tw_171 dX8_arrive_51 k5 ?_
      refine mz_V S hG hM hS cf_7 k1 (As := [va_rf ru2, .int (mI (sI (sI μ 131 a3 ((mI μ 131 a3) + (nI 1))) 262 a9 ((mI (sI μ 131 a3 ((mI μ 131 a3) + (nI 1))) 262 a9) + (nI 1))) 131 a3)]) (rest := []) (c_X8_isLost h) yf_X8_isLost tw_579 tw_580 tw_581 ⟨Nat.le_of_ble_eq_true rfl, Nat.le_of_ble_eq_true rfl⟩ ⟨(Nat.le_of_ble_eq_true rfl), (Nat.le_of_ble_eq_true rfl)⟩ rfl hl.1 rfl (Nat.le_of_ble_eq_true rfl) dX8_arrive_54 (fun v9 μ9 H locs hp hM hS => ?_)
      obtain ⟨u12, rfl, e9, h⟩ := hp
      rw [e9] at hM
      refine W.cs (cells' := 0) (slots' := 0) rfl rfl ?_
      refine lv_istore (i := 4) (lv' := [(4, .int u12), (3, va_rf ru6), (2, va_rf ru2), (0, .ref o), (1, .int x1)]) S.1 S.2.1 dX8_arrive_57 hl (by decide) (by simp [List.filter, mz_cat]) (fun ls hl => ?_)
      refine lv_iload S.1 S.2.1 dX8_arrive_59 (lv_at hl 0 rfl) ?_
      refine lv_if_ne (tgt := 96) S.1 S.2.1 dX8_arrive_61 (by decide) (fun c13 => ?_) (fun c13 => ?_)
      · have h := h.1 c13
        exact hB96  x1 ru2 ru6 u12 (sI (sI μ 131 a3 ((mI μ 131 a3) + (nI 1))) 262 a9 ((mI (sI μ 131 a3 ((mI μ 131 a3) + (nI 1))) 262 a9) + (nI 1))) H locs ls hM hS (lv_sub hl [3, 4, 2, 1, 0] rfl) h
      · have h := h.2 c13
        refine mz_aload_n (x := ru6) S.1 S.2.1 dX8_arrive_64 rfl (lv_at hl 1 rfl) ?_
        refine mz_aload_n (x := ru2) S.1 S.2.1 dX8_arrive_65 rfl (lv_at hl 2 rfl) ?_
        refine mz_o0 e4 ?_
        refine mz_geti S hG hM cf_4 fd_130 tw_168 dX8_arrive_66 k5 ?_
        refine mz_o1 e8 ?_
        obtain ⟨k41, h⟩ := h
        refine mz_V S hG hM hS cf_5 k41 (As := [.int (mI (sI (sI μ 131 a3 ((mI μ 131 a3) + (nI 1))) 262 a9 ((mI (sI μ 131 a3 ((mI μ 131 a3) + (nI 1))) 262 a9) + (nI 1))) 130 a3)]) (rest := []) (c_X6_knows h) yf_X6_knows tw_583 tw_584 tw_585 ⟨Nat.le_of_ble_eq_true rfl, Nat.le_of_ble_eq_true rfl⟩ ⟨(Nat.le_of_ble_eq_true rfl), (Nat.le_of_ble_eq_true rfl)⟩ rfl hl.1 rfl (Nat.le_of_ble_eq_true rfl) dX8_arrive_69 (fun v9 μ9 H locs hp hM hS => ?_)
        obtain ⟨u42, rfl, e9, h⟩ := hp
        rw [e9] at hM
        refine W.cs (cells' := 0) (slots' := 0) rfl rfl ?_
        refine lv_if_eq (tgt := 96) S.1 S.2.1 dX8_arrive_72 (by decide) (fun c43 => ?_) (fun c43 => ?_)
        · have h := h.1 c43
          exact hB96  x1 ru2 ru6 u12 (sI (sI μ 131 a3 ((mI μ 131 a3) + (nI 1))) 262 a9 ((mI (sI μ 131 a3 ((mI μ 131 a3) + (nI 1))) 262 a9) + (nI 1))) H locs ls hM hS (lv_sub hl [3, 4, 2, 1, 0] rfl) h
        · have h := h.2 c43
          refine lv_aload_n S.1 S.2.1 dX8_arrive_75 rfl (lv_at hl 3 rfl) ?_
          refine lv_iload_n S.1 S.2.1 dX8_arrive_76 rfl (lv_at hl 4 rfl) ?_
          refine mz_V S hG hM hS cf_7 k1 (As := [.int x1]) (rest := []) (c_X8_remove h) yf_X8_remove tw_587 tw_589 ts_6 ⟨Nat.le_of_ble_eq_true rfl, Nat.le_of_ble_eq_true rfl⟩ ⟨(Nat.le_of_ble_eq_true rfl), (Nat.le_of_ble_eq_true rfl)⟩ rfl hl.1 rfl (Nat.le_of_ble_eq_true rfl) dX8_arrive_77 (fun v9 μ44 H locs hp hM hS => ?_)
          obtain ⟨rfl, h⟩ := hp
          refine W.cs (cells' := 0) (slots' := 0) rfl rfl ?_
          refine lv_aload_n S.1 S.2.1 dX8_arrive_80 rfl (lv_at hl 3 rfl) ?_
          obtain ⟨k45, h⟩ := h
          refine mz_getr S hG hM cf_7 fd_227 tw_196 dX8_arrive_81 k45 ?_
          refine lv_dup S.1 S.2.1 dX8_arrive_84 (mz_cat _) ?_
          obtain ⟨a46, e47, h⟩ := h
          refine mz_o0 e47 ?_
          obtain ⟨k48, h⟩ := h
          refine mz_geti S hG hM cf_8 fd_259 tw_72 dX8_arrive_85 k48 ?_
          refine lv_iconst (v := (nI 1)) S.1 S.2.1 dX8_arrive_88 (by decide) ?_
          refine lv_iadd S.1 S.2.1 dX8_arrive_89 ?_
          refine mz_o1 e47 ?_
          refine mz_puti S hG hM hS cf_8 fd_259 tw_72 dX8_arrive_90 k48 rfl rfl (fun H locs hM hS hz9 => ?_)
          refine lv_goto (tgt := 191) S.1 S.2.1 dX8_arrive_93 (by decide) ?_
          exact hB191  (sI μ44 259 a46 ((mI μ44 259 a46) + (nI 1))) H locs ls hM hS (lv_sub hl [3] rfl) h
    · have h := h.1 e8
      exact mz_vret S hr hlk hM hS (Nat.le_of_ble_eq_true rfl) (Nat.le_of_ble_eq_true rfl) dX8_arrive_24 ⟨rfl, h⟩
  · have h := h.1 e4
    exact mz_vret S hr hlk hM hS (Nat.le_of_ble_eq_true rfl) (Nat.le_of_ble_eq_true rfl) dX8_arrive_10 ⟨rfl, h⟩
set_option maxRecDepth 100000 in
set_option maxHeartbeats 4000000 in
theorem c_X8_landCrows {l : Launch} {G : mgT} {μ : mmT} {o : Nat} {Q : mmT → Prop} (h : w_X8_landCrows G μ o Q) : MC G l yX8_landCrows cX8_landCrows 3 none { frames := 4, cells := 0, slots := 0, locals := 127 } [.ref o] μ (pV Q) := by
  refine mz_MC (by decide +kernel) (Nat.le_of_ble_eq_true rfl) (fun p e s m args below meth c S hG hr hlk hnm => ?_)
  have hB48 : ∀ (K2 : Int32 → mmT → Prop) (kK2 : ∀ (x1 : Int32) (μ : mmT) (H : Heap) (locs : List Loc) (ls : Array Slot), Mm G μ H → va_S (Ah G) s.heap H locs → lv_has ls 3 [(0, .ref o), (1, .int x1)] → K2 x1 μ → W p l e { frames := 4, cells := 0, slots := 0, locals := 127 } s m args below meth c H locs (0) (0) (MQ below (mQ G (pV Q)) args s 0 0 (Ah G)) (F0 m 2 ls [])) (x1 : Int32) (μ : mmT) (H : Heap) (locs : List Loc) (ls : Array Slot), Mm G μ H → va_S (Ah G) s.heap H locs → lv_has ls 3 [(0, .ref o), (1, .int x1)] → w_X8_landCrows_b48 G o Q K2 x1 μ → W p l e { frames := 4, cells := 0, slots := 0, locals := 127 } s m args below meth c H locs (0) (0) (MQ below (mQ G (pV Q)) args s 0 0 (Ah G)) (F0 m 48 ls []) := by
    intro K2 kK2 x1 μ H locs ls hM hS hl h
    unfold w_X8_landCrows_b48 at h
    refine lv_iinc (v := (x1 + nI 1)) (lv' := [(1, .int (x1 + nI 1)), (0, .ref o)]) S.1 S.2.1 dX8_landCrows_48 hl (k := 1) rfl rfl (by decide) rfl (fun ls hl => ?_)
    refine lv_goto (tgt := 2) S.1 S.2.1 dX8_landCrows_51 (by decide) ?_
    exact kK2 (x1 + nI 1) μ H locs ls hM hS (lv_sub hl [1, 0] rfl) h
  have hB2 : ∀ (n : Nat) (x1 : Int32) (μ : mmT) (H : Heap) (locs : List Loc) (ls : Array Slot), Mm G μ H → va_S (Ah G) s.heap H locs → lv_has ls 3 [(0, .ref o), (1, .int x1)] → w_X8_landCrows_l2 G o Q  n x1 μ → W p l e { frames := 4, cells := 0, slots := 0, locals := 127 } s m args below meth c H locs (0) (0) (MQ below (mQ G (pV Q)) args s 0 0 (Ah G)) (F0 m 2 ls []) := by
    intro  n
    induction n with
    | zero =>
      intro x1 μ H locs ls hM hS hl h
      exact False.elim h
    | succ n ih =>
      intro x1 μ H locs ls hM hS hl h
      have h : w_X8_landCrows_b2 G o Q  (w_X8_landCrows_l2 G o Q  n) x1 μ := h
      unfold w_X8_landCrows_b2 at h
      refine lv_iload_n S.1 S.2.1 dX8_landCrows_2 rfl (lv_at hl 1 rfl) ?_
      refine lv_aload_n S.1 S.2.1 dX8_landCrows_3 rfl (lv_at hl 0 rfl) ?_
      obtain ⟨k1, h⟩ := h
      refine mz_geti S hG hM cf_7 fd_229 tw_200 dX8_landCrows_4 k1 ?_
      refine lv_icmp_ge (tgt := 54) S.1 S.2.1 dX8_landCrows_7 (by decide) (fun c2 => ?_) (fun c2 => ?_)
      · have h := h.1 c2
        exact mz_vret S hr hlk hM hS (Nat.le_of_ble_eq_true rfl) (Nat.le_of_ble_eq_true rfl) dX8_landCrows_54 ⟨rfl, h⟩
      · have h := h.2 c2
        refine lv_aload_n S.1 S.2.1 dX8_landCrows_10 rfl (lv_at hl 0 rfl) ?_
        refine mz_getr S hG hM cf_7 fd_225 tw_193 dX8_landCrows_11 k1 ?_
        refine lv_iload_n S.1 S.2.1 dX8_landCrows_14 rfl (lv_at hl 1 rfl) ?_
        obtain ⟨a3, e4, h⟩ := h
        refine mz_o1 e4 ?_
        obtain ⟨k5, h⟩ := h
        obtain ⟨b6, h⟩ := h
        refine mz_aald (j := 6) S hG hM dX8_landCrows_15 (by decide) rfl k5 b6 ?_
        refine mz_astore_n (x := (mB μ a3 x1.toNatClampNeg)) (lv' := [(2, va_rf (mB μ a3 x1.toNatClampNeg)), (0, .ref o), (1, .int x1)]) S.1 S.2.1 dX8_landCrows_16 rfl hl (by decide) rfl (fun ls hl => ?_)
        refine mz_aload_n (x := (mB μ a3 x1.toNatClampNeg)) S.1 S.2.1 dX8_landCrows_17 rfl (lv_at hl 0 rfl) ?_
        obtain ⟨a7, e8, h⟩ := h
        refine mz_o0 e8 ?_
        obtain ⟨k9, h⟩ := h
        refine mz_geti S hG hM cf_2 fd_64 tw_141 dX8_landCrows_18 k9 ?_
        refine lv_if_eq (tgt := 48) S.1 S.2.1 dX8_landCrows_21 (by decide) (fun c10 => ?_) (fun c10 => ?_)
        · have h := h.1 c10
          exact hB48 (w_X8_landCrows_l2 G o Q  n) ih x1 μ H locs ls hM hS (lv_sub hl [1, 2] rfl) h
        · have h := h.2 c10
          refine mz_aload_n (x := (mB μ a3 x1.toNatClampNeg)) S.1 S.2.1 dX8_landCrows_24 rfl (lv_at hl 0 rfl) ?_
          refine mz_o0 e8 ?_
          refine mz_geti S hG hM cf_2 fd_66 tw_147 dX8_landCrows_25 k9 ?_
          refine lv_aload_n S.1 S.2.1 dX8_landCrows_28 rfl (lv_at hl 1 rfl) ?_
          refine mz_geti S hG hM cf_7 fd_231 tw_204 dX8_landCrows_29 k1 ?_
          refine lv_icmp_ne (tgt := 48) S.1 S.2.1 dX8_landCrows_32 (by decide) (fun c11 => ?_) (fun c11 => ?_)
          · have h := h.1 c11
            exact hB48 (w_X8_landCrows_l2 G o Q  n) ih x1 μ H locs ls hM hS (lv_sub hl [1, 2] rfl) h
          · have h := h.2 c11
            refine mz_aload_n (x := (mB μ a3 x1.toNatClampNeg)) S.1 S.2.1 dX8_landCrows_35 rfl (lv_at hl 0 rfl) ?_
            refine lv_iconst (v := (nI 0)) S.1 S.2.1 dX8_landCrows_36 (by decide) ?_
            refine mz_o1 e8 ?_
            refine mz_puti S hG hM hS cf_2 fd_64 tw_141 dX8_landCrows_37 k9 rfl rfl (fun H locs hM hS hz9 => ?_)
            refine lv_aload_n S.1 S.2.1 dX8_landCrows_40 rfl (lv_at hl 1 rfl) ?_
            refine mz_aload_n (x := (mB μ a3 x1.toNatClampNeg)) S.1 S.2.1 dX8_landCrows_41 rfl (lv_at hl 0 rfl) ?_
            refine mz_o0 e8 ?_
            refine mz_geti S hG hM cf_2 fd_65 tw_144 dX8_landCrows_42 k9 ?_
            refine mz_V S hG hM hS cf_7 k1 (As := [.int (mI (sI μ 64 a7 (nI 0)) 65 a7)]) (rest := []) (c_X8_arrive h) yf_X8_arrive tw_570 tw_572 ts_5 ⟨Nat.le_of_ble_eq_true rfl, Nat.le_of_ble_eq_true rfl⟩ ⟨(Nat.le_of_ble_eq_true rfl), (Nat.le_of_ble_eq_true rfl)⟩ rfl hl.1 rfl (Nat.le_of_ble_eq_true rfl) dX8_landCrows_45 (fun v9 μ12 H locs hp hM hS => ?_)
            obtain ⟨rfl, h⟩ := hp
            refine W.cs (cells' := 0) (slots' := 0) rfl rfl ?_
            exact hB48 (w_X8_landCrows_l2 G o Q  n) ih x1 μ12 H locs ls hM hS (lv_sub hl [1, 2] rfl) h
  intro H locs ls hM hS hl
  have hl : lv_has ls 3 [(0, .ref o)] := hl
  unfold w_X8_landCrows at h
  refine lv_iconst (v := (nI 0)) S.1 S.2.1 dX8_landCrows_0 (by decide) ?_
  refine lv_istore_n (lv' := [(1, .int (nI 0)), (0, .ref o)]) S.1 S.2.1 dX8_landCrows_1 rfl hl (by decide) rfl (fun ls hl => ?_)
  obtain ⟨n9, h⟩ := h
  exact hB2  n9 (nI 0) μ H locs ls hM hS (lv_sub hl [1, 0] rfl) h
set_option maxRecDepth 100000 in
set_option maxHeartbeats 4000000 in
theorem c_X8_wakeMessages {l : Launch} {G : mgT} {μ : mmT} {o : Nat} {Q : mmT → Prop} (h : w_X8_wakeMessages G μ o Q) : MC G l yX8_wakeMessages cX8_wakeMessages 3 none { frames := 0, cells := 0, slots := 0, locals := 0 } [.ref o] μ (pV Q) := by
  refine mz_MC (by decide +kernel) (Nat.le_of_ble_eq_true rfl) (fun p e s m args below meth c S hG hr hlk hnm => ?_)
  have hB43 : ∀ (K2 : Int32 → mmT → Prop) (kK2 : ∀ (x1 : Int32) (μ : mmT) (H : Heap) (locs : List Loc) (ls : Array Slot), Mm G μ H → va_S (Ah G) s.heap H locs → lv_has ls 3 [(0, .ref o), (1, .int x1)] → K2 x1 μ → W p l e { frames := 0, cells := 0, slots := 0, locals := 0 } s m args below meth c H locs (0) (0) (MQ below (mQ G (pV Q)) args s 0 0 (Ah G)) (F0 m 2 ls [])) (x1 : Int32) (μ : mmT) (H : Heap) (locs : List Loc) (ls : Array Slot), Mm G μ H → va_S (Ah G) s.heap H locs → lv_has ls 3 [(0, .ref o), (1, .int x1)] → w_X8_wakeMessages_b43 G o Q K2 x1 μ → W p l e { frames := 0, cells := 0, slots := 0, locals := 0 } s m args below meth c H locs (0) (0) (MQ below (mQ G (pV Q)) args s 0 0 (Ah G)) (F0 m 43 ls []) := by
    intro K2 kK2 x1 μ H locs ls hM hS hl h
    unfold w_X8_wakeMessages_b43 at h
    refine lv_iinc (v := (x1 + nI 1)) (lv' := [(1, .int (x1 + nI 1)), (0, .ref o)]) S.1 S.2.1 dX8_wakeMessages_43 hl (k := 1) rfl rfl (by decide) rfl (fun ls hl => ?_)
    refine lv_goto (tgt := 2) S.1 S.2.1 dX8_wakeMessages_46 (by decide) ?_
    exact kK2 (x1 + nI 1) μ H locs ls hM hS (lv_sub hl [1, 0] rfl) h
  have hB2 : ∀ (n : Nat) (x1 : Int32) (μ : mmT) (H : Heap) (locs : List Loc) (ls : Array Slot), Mm G μ H → va_S (Ah G) s.heap H locs → lv_has ls 3 [(0, .ref o), (1, .int x1)] → w_X8_wakeMessages_l2 G o Q  n x1 μ → W p l e { frames := 0, cells := 0, slots := 0, locals := 0 } s m args below meth c H locs (0) (0) (MQ below (mQ G (pV Q)) args s 0 0 (Ah G)) (F0 m 2 ls []) := by
    intro  n
    induction n with
    | zero =>
      intro x1 μ H locs ls hM hS hl h
      exact False.elim h
    | succ n ih =>
      intro x1 μ H locs ls hM hS hl h
      have h : w_X8_wakeMessages_b2 G o Q  (w_X8_wakeMessages_l2 G o Q  n) x1 μ := h
      unfold w_X8_wakeMessages_b2 at h
      refine lv_iload_n S.1 S.2.1 dX8_wakeMessages_2 rfl (lv_at hl 1 rfl) ?_
      refine lv_aload_n S.1 S.2.1 dX8_wakeMessages_3 rfl (lv_at hl 0 rfl) ?_
      obtain ⟨k1, h⟩ := h
      refine mz_geti S hG hM cf_7 fd_230 tw_202 dX8_wakeMessages_4 k1 ?_
      refine lv_icmp_ge (tgt := 49) S.1 S.2.1 dX8_wakeMessages_7 (by decide) (fun c2 => ?_) (fun c2 => ?_)
      · have h := h.1 c2
        exact mz_vret S hr hlk hM hS (Nat.le_of_ble_eq_true rfl) (Nat.le_of_ble_eq_true rfl) dX8_wakeMessages_49 ⟨rfl, h⟩
      · have h := h.2 c2
        refine lv_aload_n S.1 S.2.1 dX8_wakeMessages_10 rfl (lv_at hl 0 rfl) ?_
        refine mz_getr S hG hM cf_7 fd_226 tw_194 dX8_wakeMessages_11 k1 ?_
        refine lv_iload_n S.1 S.2.1 dX8_wakeMessages_14 rfl (lv_at hl 1 rfl) ?_
        obtain ⟨a3, e4, h⟩ := h
        refine mz_o1 e4 ?_
        obtain ⟨k5, h⟩ := h
        obtain ⟨b6, h⟩ := h
        refine mz_aald (j := 7) S hG hM dX8_wakeMessages_15 (by decide) rfl k5 b6 ?_
        refine mz_astore_n (x := (mB μ a3 x1.toNatClampNeg)) (lv' := [(2, va_rf (mB μ a3 x1.toNatClampNeg)), (0, .ref o), (1, .int x1)]) S.1 S.2.1 dX8_wakeMessages_16 rfl hl (by decide) rfl (fun ls hl => ?_)
        refine mz_aload_n (x := (mB μ a3 x1.toNatClampNeg)) S.1 S.2.1 dX8_wakeMessages_17 rfl (lv_at hl 0 rfl) ?_
        obtain ⟨a7, e8, h⟩ := h
        refine mz_o0 e8 ?_
        obtain ⟨k9, h⟩ := h
        refine mz_geti S hG hM cf_4 fd_132 tw_174 dX8_wakeMessages_18 k9 ?_
        refine lv_bipush (v := (nI 110)) S.1 S.2.1 dX8_wakeMessages_21 (by decide) ?_
        refine lv_icmp_ne (tgt := 43) S.1 S.2.1 dX8_wakeMessages_23 (by decide) (fun c10 => ?_) (fun c10 => ?_)
        · have h := h.1 c10
          exact hB43 (w_X8_wakeMessages_l2 G o Q  n) ih x1 μ H locs ls hM hS (lv_sub hl [1, 2] rfl) h
        · have h := h.2 c10
          refine mz_aload_n (x := (mB μ a3 x1.toNatClampNeg)) S.1 S.2.1 dX8_wakeMessages_26 rfl (lv_at hl 0 rfl) ?_
          refine mz_o0 e8 ?_
          refine mz_geti S hG hM cf_4 fd_133 tw_177 dX8_wakeMessages_27 k9 ?_
          refine lv_aload_n S.1 S.2.1 dX8_wakeMessages_30 rfl (lv_at hl 1 rfl) ?_
          refine mz_geti S hG hM cf_7 fd_231 tw_204 dX8_wakeMessages_31 k1 ?_
          refine lv_icmp_ne (tgt := 43) S.1 S.2.1 dX8_wakeMessages_34 (by decide) (fun c11 => ?_) (fun c11 => ?_)
          · have h := h.1 c11
            exact hB43 (w_X8_wakeMessages_l2 G o Q  n) ih x1 μ H locs ls hM hS (lv_sub hl [1, 2] rfl) h
          · have h := h.2 c11
            refine mz_aload_n (x := (mB μ a3 x1.toNatClampNeg)) S.1 S.2.1 dX8_wakeMessages_37 rfl (lv_at hl 0 rfl) ?_
            refine lv_bipush (v := (nI 119)) S.1 S.2.1 dX8_wakeMessages_38 (by decide) ?_
            refine mz_o1 e8 ?_
            refine mz_puti S hG hM hS cf_4 fd_132 tw_174 dX8_wakeMessages_40 k9 (mz_nC ⟨119, by decide, rfl⟩) (mz_fC ⟨119, by decide, rfl⟩) (fun H locs hM hS hz9 => ?_)
            exact hB43 (w_X8_wakeMessages_l2 G o Q  n) ih x1 (sI μ 132 a7 (nI 119)) H locs ls hM hS (lv_sub hl [1, 2] rfl) h
  intro H locs ls hM hS hl
  have hl : lv_has ls 3 [(0, .ref o)] := hl
  unfold w_X8_wakeMessages at h
  refine lv_iconst (v := (nI 0)) S.1 S.2.1 dX8_wakeMessages_0 (by decide) ?_
  refine lv_istore_n (lv' := [(1, .int (nI 0)), (0, .ref o)]) S.1 S.2.1 dX8_wakeMessages_1 rfl hl (by decide) rfl (fun ls hl => ?_)
  obtain ⟨n9, h⟩ := h
  exact hB2  n9 (nI 0) μ H locs ls hM hS (lv_sub hl [1, 0] rfl) h
set_option maxRecDepth 100000 in
set_option maxHeartbeats 4000000 in
theorem c_X8_waitingAtRank {l : Launch} {G : mgT} {μ : mmT} {o : Nat} {x1 : Int32} {Q : Option Nat → Prop} (h : w_X8_waitingAtRank G μ o x1 Q) : MC G l yX8_waitingAtRank cX8_waitingAtRank 6 (some (.object "CrowMail$Message")) { frames := 0, cells := 0, slots := 0, locals := 0 } [.ref o, .int x1] μ (pR (fun r μ' => μ' = μ ∧ Q r)) := by
  refine mz_MC (by decide +kernel) (Nat.le_of_ble_eq_true rfl) (fun p e s m args below meth c S hG hr hlk hnm => ?_)
  have hB60 : ∀ (K4 : Int32 → Int32 → Int32 → Prop) (kK4 : ∀ (x1 : Int32) (x2 : Int32) (x3 : Int32) (H : Heap) (locs : List Loc) (ls : Array Slot), Mm G μ H → va_S (Ah G) s.heap H locs → lv_has ls 6 [(0, .ref o), (1, .int x1), (2, .int x2), (3, .int x3)] → K4 x1 x2 x3 → W p l e { frames := 0, cells := 0, slots := 0, locals := 0 } s m args below meth c H locs (0) (0) (MQ below (mQ G (pR (fun r μ' => μ' = μ ∧ Q r))) args s 0 0 (Ah G)) (F0 m 4 ls [])) (K12 : Int32 → Int32 → Int32 → Int32 → Prop) (kK12 : ∀ (x1 : Int32) (x2 : Int32) (x3 : Int32) (x4 : Int32) (H : Heap) (locs : List Loc) (ls : Array Slot), Mm G μ H → va_S (Ah G) s.heap H locs → lv_has ls 6 [(0, .ref o), (1, .int x1), (2, .int x2), (3, .int x3), (4, .int x4)] → K12 x1 x2 x3 x4 → W p l e { frames := 0, cells := 0, slots := 0, locals := 0 } s m args below meth c H locs (0) (0) (MQ below (mQ G (pR (fun r μ' => μ' = μ ∧ Q r))) args s 0 0 (Ah G)) (F0 m 12 ls [])) (x1 : Int32) (x2 : Int32) (x3 : Int32) (x4 : Int32) (H : Heap) (locs : List Loc) (ls : Array Slot), Mm G μ H → va_S (Ah G) s.heap H locs → lv_has ls 6 [(0, .ref o), (1, .int x1), (2, .int x2), (3, .int x3), (4, .int x4)] → w_X8_waitingAtRank_b60 G μ o Q K4 K12 x1 x2 x3 x4 → W p l e { frames := 0, cells := 0, slots := 0, locals := 0 } s m args below meth c H locs (0) (0) (MQ below (mQ G (pR (fun r μ' => μ' = μ ∧ Q r))) args s 0 0 (Ah G)) (F0 m 60 ls []) := by
    intro K4 kK4 K12 kK12 x1 x2 x3 x4 H locs ls hM hS hl h
    unfold w_X8_waitingAtRank_b60 at h
    refine lv_iinc (v := (x4 + nI 1)) (lv' := [(4, .int (x4 + nI 1)), (0, .ref o), (1, .int x1), (2, .int x2), (3, .int x3)]) S.1 S.2.1 dX8_waitingAtRank_60 hl (k := 4) rfl rfl (by decide) rfl (fun ls hl => ?_)
    refine lv_goto (tgt := 12) S.1 S.2.1 dX8_waitingAtRank_63 (by decide) ?_
    exact kK12 x1 x2 x3 (x4 + nI 1) H locs ls hM hS (lv_sub hl [1, 2, 3, 4, 0] rfl) h
  have hB12 : ∀ (K4 : Int32 → Int32 → Int32 → Prop) (kK4 : ∀ (x1 : Int32) (x2 : Int32) (x3 : Int32) (H : Heap) (locs : List Loc) (ls : Array Slot), Mm G μ H → va_S (Ah G) s.heap H locs → lv_has ls 6 [(0, .ref o), (1, .int x1), (2, .int x2), (3, .int x3)] → K4 x1 x2 x3 → W p l e { frames := 0, cells := 0, slots := 0, locals := 0 } s m args below meth c H locs (0) (0) (MQ below (mQ G (pR (fun r μ' => μ' = μ ∧ Q r))) args s 0 0 (Ah G)) (F0 m 4 ls [])) (n : Nat) (x1 : Int32) (x2 : Int32) (x3 : Int32) (x4 : Int32) (H : Heap) (locs : List Loc) (ls : Array Slot), Mm G μ H → va_S (Ah G) s.heap H locs → lv_has ls 6 [(0, .ref o), (1, .int x1), (2, .int x2), (3, .int x3), (4, .int x4)] → w_X8_waitingAtRank_l12 G μ o Q K4 n x1 x2 x3 x4 → W p l e { frames := 0, cells := 0, slots := 0, locals := 0 } s m args below meth c H locs (0) (0) (MQ below (mQ G (pR (fun r μ' => μ' = μ ∧ Q r))) args s 0 0 (Ah G)) (F0 m 12 ls []) := by
    intro K4 kK4 n
    induction n with
    | zero =>
      intro x1 x2 x3 x4 H locs ls hM hS hl h
      exact False.elim h
    | succ n ih =>
      intro x1 x2 x3 x4 H locs ls hM hS hl h
      have h : w_X8_waitingAtRank_b12 G μ o Q K4 (w_X8_waitingAtRank_l12 G μ o Q K4 n) x1 x2 x3 x4 := h
      unfold w_X8_waitingAtRank_b12 at h
      refine lv_iload S.1 S.2.1 dX8_waitingAtRank_12 (lv_at hl 4 rfl) ?_
      refine lv_aload_n S.1 S.2.1 dX8_waitingAtRank_14 rfl (lv_at hl 0 rfl) ?_
      obtain ⟨k2, h⟩ := h
      refine mz_geti S hG hM cf_7 fd_230 tw_202 dX8_waitingAtRank_15 k2 ?_
      refine lv_icmp_ge (tgt := 66) S.1 S.2.1 dX8_waitingAtRank_18 (by decide) (fun c3 => ?_) (fun c3 => ?_)
      · have h := h.1 c3
        refine lv_iinc (v := (x3 + nI 1)) (lv' := [(3, .int (x3 + nI 1)), (0, .ref o), (1, .int x1), (2, .int x2), (4, .int x4)]) S.1 S.2.1 dX8_waitingAtRank_66 hl (k := 3) rfl rfl (by decide) rfl (fun ls hl => ?_)
        refine lv_goto (tgt := 4) S.1 S.2.1 dX8_waitingAtRank_69 (by decide) ?_
        exact kK4 x1 x2 (x3 + nI 1) H locs ls hM hS (lv_sub hl [1, 2, 3, 0] rfl) h
      · have h := h.2 c3
        refine lv_aload_n S.1 S.2.1 dX8_waitingAtRank_21 rfl (lv_at hl 0 rfl) ?_
        refine mz_getr S hG hM cf_7 fd_226 tw_194 dX8_waitingAtRank_22 k2 ?_
        refine lv_iload S.1 S.2.1 dX8_waitingAtRank_25 (lv_at hl 4 rfl) ?_
        obtain ⟨a4, e5, h⟩ := h
        refine mz_o1 e5 ?_
        obtain ⟨k6, h⟩ := h
        obtain ⟨b7, h⟩ := h
        refine mz_aald (j := 7) S hG hM dX8_waitingAtRank_27 (by decide) rfl k6 b7 ?_
        refine mz_astore (x := (mB μ a4 x4.toNatClampNeg)) (lv' := [(5, va_rf (mB μ a4 x4.toNatClampNeg)), (0, .ref o), (1, .int x1), (2, .int x2), (3, .int x3), (4, .int x4)]) S.1 S.2.1 dX8_waitingAtRank_28 hl (by decide) rfl (fun ls hl => ?_)
        refine mz_aload (x := (mB μ a4 x4.toNatClampNeg)) S.1 S.2.1 dX8_waitingAtRank_30 (lv_at hl 0 rfl) ?_
        obtain ⟨a8, e9, h⟩ := h
        refine mz_o0 e9 ?_
        obtain ⟨k10, h⟩ := h
        refine mz_geti S hG hM cf_4 fd_132 tw_174 dX8_waitingAtRank_32 k10 ?_
        refine lv_bipush (v := (nI 119)) S.1 S.2.1 dX8_waitingAtRank_35 (by decide) ?_
        refine lv_icmp_ne (tgt := 60) S.1 S.2.1 dX8_waitingAtRank_37 (by decide) (fun c11 => ?_) (fun c11 => ?_)
        · have h := h.1 c11
          exact hB60 K4 kK4 (w_X8_waitingAtRank_l12 G μ o Q K4 n) ih x1 x2 x3 x4 H locs ls hM hS (lv_sub hl [1, 2, 3, 4, 5] rfl) h
        · have h := h.2 c11
          refine mz_aload (x := (mB μ a4 x4.toNatClampNeg)) S.1 S.2.1 dX8_waitingAtRank_40 (lv_at hl 0 rfl) ?_
          refine mz_o0 e9 ?_
          refine mz_geti S hG hM cf_4 fd_131 tw_171 dX8_waitingAtRank_42 k10 ?_
          refine lv_iload_n S.1 S.2.1 dX8_waitingAtRank_45 rfl (lv_at hl 4 rfl) ?_
          refine lv_icmp_ne (tgt := 60) S.1 S.2.1 dX8_waitingAtRank_46 (by decide) (fun c12 => ?_) (fun c12 => ?_)
          · have h := h.1 c12
            exact hB60 K4 kK4 (w_X8_waitingAtRank_l12 G μ o Q K4 n) ih x1 x2 x3 x4 H locs ls hM hS (lv_sub hl [1, 2, 3, 4, 5] rfl) h
          · have h := h.2 c12
            refine lv_iload_n S.1 S.2.1 dX8_waitingAtRank_49 rfl (lv_at hl 3 rfl) ?_
            refine lv_iload_n S.1 S.2.1 dX8_waitingAtRank_50 rfl (lv_at hl 2 rfl) ?_
            refine lv_icmp_ne (tgt := 57) S.1 S.2.1 dX8_waitingAtRank_51 (by decide) (fun c13 => ?_) (fun c13 => ?_)
            · have h := h.1 c13
              refine lv_iinc (v := (x2 + nI 1)) (lv' := [(2, .int (x2 + nI 1)), (5, va_rf (mB μ a4 x4.toNatClampNeg)), (0, .ref o), (1, .int x1), (3, .int x3), (4, .int x4)]) S.1 S.2.1 dX8_waitingAtRank_57 hl (k := 3) rfl rfl (by decide) rfl (fun ls hl => ?_)
              exact hB60 K4 kK4 (w_X8_waitingAtRank_l12 G μ o Q K4 n) ih x1 (x2 + nI 1) x3 x4 H locs ls hM hS (lv_sub hl [2, 3, 0, 4, 5] rfl) h
            · have h := h.2 c13
              refine mz_aload (x := (mB μ a4 x4.toNatClampNeg)) S.1 S.2.1 dX8_waitingAtRank_54 (lv_at hl 0 rfl) ?_
              exact mz_aret (x := (mB μ a4 x4.toNatClampNeg)) S hr (by first | exact Or.inl ⟨_, rfl⟩ | exact Or.inr ⟨_, rfl⟩) hlk hM hS (Nat.le_of_ble_eq_true rfl) (Nat.le_of_ble_eq_true rfl) dX8_waitingAtRank_56 ⟨_, rfl, rfl, h⟩
  have hB4 : ∀ (n : Nat) (x1 : Int32) (x2 : Int32) (x3 : Int32) (H : Heap) (locs : List Loc) (ls : Array Slot), Mm G μ H → va_S (Ah G) s.heap H locs → lv_has ls 6 [(0, .ref o), (1, .int x1), (2, .int x2), (3, .int x3)] → w_X8_waitingAtRank_l4 G μ o Q  n x1 x2 x3 → W p l e { frames := 0, cells := 0, slots := 0, locals := 0 } s m args below meth c H locs (0) (0) (MQ below (mQ G (pR (fun r μ' => μ' = μ ∧ Q r))) args s 0 0 (Ah G)) (F0 m 4 ls []) := by
    intro  n
    induction n with
    | zero =>
      intro x1 x2 x3 H locs ls hM hS hl h
      exact False.elim h
    | succ n ih =>
      intro x1 x2 x3 H locs ls hM hS hl h
      have h : w_X8_waitingAtRank_b4 G μ o Q  (w_X8_waitingAtRank_l4 G μ o Q  n) x1 x2 x3 := h
      unfold w_X8_waitingAtRank_b4 at h
      refine lv_iload_n S.1 S.2.1 dX8_waitingAtRank_4 rfl (lv_at hl 3 rfl) ?_
      refine lv_iconst (v := (nI 5)) S.1 S.2.1 dX8_waitingAtRank_5 (by decide) ?_
      refine lv_icmp_ge (tgt := 72) S.1 S.2.1 dX8_waitingAtRank_6 (by decide) (fun c1 => ?_) (fun c1 => ?_)
      · have h := h.1 c1
        refine lv_null S.1 S.2.1 dX8_waitingAtRank_72 ?_
        exact mz_aret (x := none) S hr (by first | exact Or.inl ⟨_, rfl⟩ | exact Or.inr ⟨_, rfl⟩) hlk hM hS (Nat.le_of_ble_eq_true rfl) (Nat.le_of_ble_eq_true rfl) dX8_waitingAtRank_73 ⟨_, rfl, rfl, h⟩
      · have h := h.2 c1
        refine lv_iconst (v := (nI 0)) S.1 S.2.1 dX8_waitingAtRank_9 (by decide) ?_
        refine lv_istore (lv' := [(4, .int (nI 0)), (0, .ref o), (1, .int x1), (2, .int x2), (3, .int x3)]) S.1 S.2.1 dX8_waitingAtRank_10 hl (by decide) rfl (fun ls hl => ?_)
        obtain ⟨n9, h⟩ := h
        exact hB12 (w_X8_waitingAtRank_l4 G μ o Q  n) ih n9 x1 x2 x3 (nI 0) H locs ls hM hS (lv_sub hl [1, 2, 3, 4, 0] rfl) h
  intro H locs ls hM hS hl
  have hl : lv_has ls 6 [(0, .ref o), (1, .int x1)] := hl
  unfold w_X8_waitingAtRank at h
  refine lv_iconst (v := (nI 0)) S.1 S.2.1 dX8_waitingAtRank_0 (by decide) ?_
  refine lv_istore_n (lv' := [(2, .int (nI 0)), (0, .ref o), (1, .int x1)]) S.1 S.2.1 dX8_waitingAtRank_1 rfl hl (by decide) rfl (fun ls hl => ?_)
  refine lv_iconst (v := (nI 0)) S.1 S.2.1 dX8_waitingAtRank_2 (by decide) ?_
  refine lv_istore_n (lv' := [(3, .int (nI 0)), (2, .int (nI 0)), (0, .ref o), (1, .int x1)]) S.1 S.2.1 dX8_waitingAtRank_3 rfl hl (by decide) rfl (fun ls hl => ?_)
  obtain ⟨n9, h⟩ := h
  exact hB4  n9 x1 (nI 0) (nI 0) H locs ls hM hS (lv_sub hl [2, 3, 1, 0] rfl) h
set_option maxRecDepth 100000 in
set_option maxHeartbeats 4000000 in
theorem c_X8_flightLength {l : Launch} {G : mgT} {μ : mmT} {o : Nat} {r1 : Option Nat} {Q : Int32 → Prop} (h : w_X8_flightLength G μ o r1 Q) : MC G l yX8_flightLength cX8_flightLength 4 (some .int) { frames := 1, cells := 0, slots := 0, locals := 21 } [.ref o, va_rf r1] μ (pI (fun r μ' => μ' = μ ∧ Q r)) := by
  refine mz_MC (by decide +kernel) (by simp [lg_sl, mz_cat, mz_cr, mz_ci, mz_cl, mz_cf, mz_cd, mz_cn]) (fun p e s m args below meth c S hG hr hlk hnm => ?_)
  have hB37 : ∀ (s0 : Int32) (H : Heap) (locs : List Loc) (ls : Array Slot), Mm G μ H → va_S (Ah G) s.heap H locs → lv_has ls 4 [(0, .ref o)] → w_X8_flightLength_b37 G μ o Q  s0 → W p l e { frames := 1, cells := 0, slots := 0, locals := 21 } s m args below meth c H locs (0) (0) (MQ below (mQ G (pI (fun r μ' => μ' = μ ∧ Q r))) args s 0 0 (Ah G)) (F0 m 37 ls [.int s0]) := by
    intro  s0 H locs ls hM hS hl h
    unfold w_X8_flightLength_b37 at h
    exact mz_iret S hr hlk hM hS rfl (Nat.le_of_ble_eq_true rfl) (Nat.le_of_ble_eq_true rfl) dX8_flightLength_37 ⟨_, rfl, rfl, h⟩
  have hB21 : ∀ (s0 : Int32) (H : Heap) (locs : List Loc) (ls : Array Slot), Mm G μ H → va_S (Ah G) s.heap H locs → lv_has ls 4 [(0, .ref o)] → w_X8_flightLength_b21 G μ o Q  s0 → W p l e { frames := 1, cells := 0, slots := 0, locals := 21 } s m args below meth c H locs (0) (0) (MQ below (mQ G (pI (fun r μ' => μ' = μ ∧ Q r))) args s 0 0 (Ah G)) (F0 m 21 ls [.int s0]) := by
    intro  s0 H locs ls hM hS hl h
    unfold w_X8_flightLength_b21 at h
    refine lv_istore_n (lv' := [(3, .int s0), (0, .ref o)]) S.1 S.2.1 dX8_flightLength_21 rfl hl (by decide) rfl (fun ls hl => ?_)
    refine lv_aload_n S.1 S.2.1 dX8_flightLength_22 rfl (lv_at hl 1 rfl) ?_
    obtain ⟨k8, h⟩ := h
    refine mz_geti S hG hM cf_7 fd_232 tw_206 dX8_flightLength_23 k8 ?_
    refine lv_iconst (v := (nI 5)) S.1 S.2.1 dX8_flightLength_26 (by decide) ?_
    refine lv_icmp_le (tgt := 36) S.1 S.2.1 dX8_flightLength_27 (by decide) (fun c9 => ?_) (fun c9 => ?_)
    · have h := h.1 c9
      refine lv_iload_n S.1 S.2.1 dX8_flightLength_36 rfl (lv_at hl 0 rfl) ?_
      exact hB37  s0 H locs ls hM hS (lv_sub hl [1] rfl) h
    · have h := h.2 c9
      refine lv_iload_n S.1 S.2.1 dX8_flightLength_30 rfl (lv_at hl 0 rfl) ?_
      refine lv_iconst (v := (nI 1)) S.1 S.2.1 dX8_flightLength_31 (by decide) ?_
      refine lv_iadd S.1 S.2.1 dX8_flightLength_32 ?_
      refine lv_goto (tgt := 37) S.1 S.2.1 dX8_flightLength_33 (by decide) ?_
      exact hB37  (s0 + (nI 1)) H locs ls hM hS (lv_sub hl [1] rfl) h
  intro H locs ls hM hS hl
  have hl : lv_has ls 4 [(0, .ref o), (1, va_rf r1)] := by simpa [lv_args, mz_cat, mz_cr, mz_ci, mz_cl, mz_cf, mz_cd, mz_cn] using hl
  unfold w_X8_flightLength at h
  refine lv_aload_n S.1 S.2.1 dX8_flightLength_0 rfl (lv_at hl 0 rfl) ?_
  refine mz_aload_n (x := r1) S.1 S.2.1 dX8_flightLength_1 rfl (lv_at hl 1 rfl) ?_
  obtain ⟨a1, e2, h⟩ := h
  refine mz_o0 e2 ?_
  obtain ⟨k3, h⟩ := h
  refine mz_geti S hG hM cf_4 fd_129 tw_165 dX8_flightLength_2 k3 ?_
  obtain ⟨k4, h⟩ := h
  refine mz_V S hG hM hS cf_7 k4 (As := [.int (mI μ 129 a1)]) (rest := []) (c_X8_nestAt h) yf_X8_nestAt tw_575 tw_576 tw_577 ⟨Nat.le_of_ble_eq_true rfl, Nat.le_of_ble_eq_true rfl⟩ ⟨(Nat.le_of_ble_eq_true rfl), (Nat.le_of_ble_eq_true rfl)⟩ rfl hl.1 rfl (Nat.le_of_ble_eq_true rfl) dX8_flightLength_5 (fun v9 μ9 H locs hp hM hS => ?_)
  obtain ⟨ru5, rfl, e9, h⟩ := hp
  rw [e9] at hM
  refine W.cs (cells' := 0) (slots' := 0) rfl rfl ?_
  refine mz_astore_n (x := ru5) (i := 2) (lv' := [(2, va_rf ru5), (0, .ref o), (1, va_rf r1)]) S.1 S.2.1 dX8_flightLength_8 rfl hl (by decide) (by simp [List.filter, mz_cat]) (fun ls hl => ?_)
  refine mz_aload_n (x := ru5) S.1 S.2.1 dX8_flightLength_9 rfl (lv_at hl 0 rfl) ?_
  refine mz_ifnonnull (tgt := 17) S.1 S.2.1 dX8_flightLength_10 (by decide) (fun a6 e7 => ?_) (fun e7 => ?_)
  · have h := h.2 a6 e7
    refine mz_aload_n (x := ru5) S.1 S.2.1 dX8_flightLength_17 rfl (lv_at hl 0 rfl) ?_
    refine mz_o0 e7 ?_
    obtain ⟨k10, h⟩ := h
    refine mz_geti S hG hM cf_5 fd_162 tw_107 dX8_flightLength_18 k10 ?_
    exact hB21  (mI μ 162 a6) H locs ls hM hS (lv_sub hl [1] rfl) h
  · have h := h.1 e7
    refine lv_iconst (v := (nI 1)) S.1 S.2.1 dX8_flightLength_13 (by decide) ?_
    refine lv_goto (tgt := 21) S.1 S.2.1 dX8_flightLength_14 (by decide) ?_
    exact hB21  (nI 1) H locs ls hM hS (lv_sub hl [1] rfl) h
set_option maxRecDepth 100000 in
set_option maxHeartbeats 4000000 in
theorem c_X8_sendCrows {l : Launch} {G : mgT} {μ : mmT} {o : Nat} {Q : mmT → Prop} (h : w_X8_sendCrows G μ o Q) : MC G l yX8_sendCrows cX8_sendCrows 3 none { frames := 2, cells := 0, slots := 0, locals := 44 } [.ref o] μ (pV Q) := by
  refine mz_MC (by decide +kernel) (Nat.le_of_ble_eq_true rfl) (fun p e s m args below meth c S hG hr hlk hnm => ?_)
  have hB84 : ∀ (K2 : Int32 → mmT → Prop) (kK2 : ∀ (x1 : Int32) (μ : mmT) (H : Heap) (locs : List Loc) (ls : Array Slot), Mm G μ H → va_S (Ah G) s.heap H locs → lv_has ls 3 [(0, .ref o), (1, .int x1)] → K2 x1 μ → W p l e { frames := 2, cells := 0, slots := 0, locals := 44 } s m args below meth c H locs (0) (0) (MQ below (mQ G (pV Q)) args s 0 0 (Ah G)) (F0 m 2 ls [])) (x1 : Int32) (μ : mmT) (H : Heap) (locs : List Loc) (ls : Array Slot), Mm G μ H → va_S (Ah G) s.heap H locs → lv_has ls 3 [(0, .ref o), (1, .int x1)] → w_X8_sendCrows_b84 G o Q K2 x1 μ → W p l e { frames := 2, cells := 0, slots := 0, locals := 44 } s m args below meth c H locs (0) (0) (MQ below (mQ G (pV Q)) args s 0 0 (Ah G)) (F0 m 84 ls []) := by
    intro K2 kK2 x1 μ H locs ls hM hS hl h
    unfold w_X8_sendCrows_b84 at h
    refine lv_iinc (v := (x1 + nI 1)) (lv' := [(1, .int (x1 + nI 1)), (0, .ref o)]) S.1 S.2.1 dX8_sendCrows_84 hl (k := 1) rfl rfl (by decide) rfl (fun ls hl => ?_)
    refine lv_goto (tgt := 2) S.1 S.2.1 dX8_sendCrows_87 (by decide) ?_
    exact kK2 (x1 + nI 1) μ H locs ls hM hS (lv_sub hl [1, 0] rfl) h
  have hB31 : ∀ (K2 : Int32 → mmT → Prop) (kK2 : ∀ (x1 : Int32) (μ : mmT) (H : Heap) (locs : List Loc) (ls : Array Slot), Mm G μ H → va_S (Ah G) s.heap H locs → lv_has ls 3 [(0, .ref o), (1, .int x1)] → K2 x1 μ → W p l e { frames := 2, cells := 0, slots := 0, locals := 44 } s m args below meth c H locs (0) (0) (MQ below (mQ G (pV Q)) args s 0 0 (Ah G)) (F0 m 2 ls [])) (x1 : Int32) (s0 : Option Nat) (μ : mmT) (H : Heap) (locs : List Loc) (ls : Array Slot), Mm G μ H → va_S (Ah G) s.heap H locs → lv_has ls 3 [(0, .ref o), (1, .int x1)] → w_X8_sendCrows_b31 G o Q K2 x1 s0 μ → W p l e { frames := 2, cells := 0, slots := 0, locals := 44 } s m args below meth c H locs (0) (0) (MQ below (mQ G (pV Q)) args s 0 0 (Ah G)) (F0 m 31 ls [va_rf s0]) := by
    intro K2 kK2 x1 s0 μ H locs ls hM hS hl h
    unfold w_X8_sendCrows_b31 at h
    refine mz_astore_n (x := s0) (lv' := [(2, va_rf s0), (0, .ref o), (1, .int x1)]) S.1 S.2.1 dX8_sendCrows_31 rfl hl (by decide) rfl (fun ls hl => ?_)
    refine mz_aload_n (x := s0) S.1 S.2.1 dX8_sendCrows_32 rfl (lv_at hl 0 rfl) ?_
    refine mz_ifnull (tgt := 84) S.1 S.2.1 dX8_sendCrows_33 (by decide) (fun e13 => ?_) (fun a12 e13 => ?_)
    · have h := h.1 e13
      exact hB84 K2 kK2 x1 μ H locs ls hM hS (lv_sub hl [1, 2] rfl) h
    · have h := h.2 a12 e13
      refine mz_aload_n (x := s0) S.1 S.2.1 dX8_sendCrows_36 rfl (lv_at hl 0 rfl) ?_
      refine lv_bipush (v := (nI 102)) S.1 S.2.1 dX8_sendCrows_37 (by decide) ?_
      refine mz_o1 e13 ?_
      obtain ⟨k14, h⟩ := h
      refine mz_puti S hG hM hS cf_4 fd_132 tw_174 dX8_sendCrows_39 k14 (mz_nC ⟨102, by decide, rfl⟩) (mz_fC ⟨102, by decide, rfl⟩) (fun H locs hM hS hz9 => ?_)
      refine lv_aload_n S.1 S.2.1 dX8_sendCrows_42 rfl (lv_at hl 1 rfl) ?_
      obtain ⟨k15, h⟩ := h
      refine mz_getr S hG hM cf_7 fd_225 tw_193 dX8_sendCrows_43 k15 ?_
      refine lv_iload_n S.1 S.2.1 dX8_sendCrows_46 rfl (lv_at hl 2 rfl) ?_
      obtain ⟨a16, e17, h⟩ := h
      refine mz_o1 e17 ?_
      obtain ⟨k18, h⟩ := h
      obtain ⟨b19, h⟩ := h
      refine mz_aald (j := 6) S hG hM dX8_sendCrows_47 (by decide) rfl k18 b19 ?_
      refine lv_iconst (v := (nI 1)) S.1 S.2.1 dX8_sendCrows_48 (by decide) ?_
      obtain ⟨a20, e21, h⟩ := h
      refine mz_o1 e21 ?_
      obtain ⟨k22, h⟩ := h
      refine mz_puti S hG hM hS cf_2 fd_64 tw_141 dX8_sendCrows_49 k22 rfl rfl (fun H locs hM hS hz9 => ?_)
      refine lv_aload_n S.1 S.2.1 dX8_sendCrows_52 rfl (lv_at hl 1 rfl) ?_
      refine mz_getr S hG hM cf_7 fd_225 tw_193 dX8_sendCrows_53 k15 ?_
      refine lv_iload_n S.1 S.2.1 dX8_sendCrows_56 rfl (lv_at hl 2 rfl) ?_
      obtain ⟨a23, e24, h⟩ := h
      refine mz_o1 e24 ?_
      obtain ⟨k25, h⟩ := h
      obtain ⟨b26, h⟩ := h
      refine mz_aald (j := 6) S hG hM dX8_sendCrows_57 (by decide) rfl k25 b26 ?_
      refine mz_aload_n (x := s0) S.1 S.2.1 dX8_sendCrows_58 rfl (lv_at hl 0 rfl) ?_
      refine mz_o0 e13 ?_
      refine mz_geti S hG hM cf_4 fd_128 tw_162 dX8_sendCrows_59 k14 ?_
      obtain ⟨a27, e28, h⟩ := h
      refine mz_o1 e28 ?_
      obtain ⟨k29, h⟩ := h
      refine mz_puti S hG hM hS cf_2 fd_65 tw_144 dX8_sendCrows_62 k29 rfl rfl (fun H locs hM hS hz9 => ?_)
      refine lv_aload_n S.1 S.2.1 dX8_sendCrows_65 rfl (lv_at hl 1 rfl) ?_
      refine mz_getr S hG hM cf_7 fd_225 tw_193 dX8_sendCrows_66 k15 ?_
      refine lv_iload_n S.1 S.2.1 dX8_sendCrows_69 rfl (lv_at hl 2 rfl) ?_
      obtain ⟨a30, e31, h⟩ := h
      refine mz_o1 e31 ?_
      obtain ⟨k32, h⟩ := h
      obtain ⟨b33, h⟩ := h
      refine mz_aald (j := 6) S hG hM dX8_sendCrows_70 (by decide) rfl k32 b33 ?_
      refine lv_aload_n S.1 S.2.1 dX8_sendCrows_71 rfl (lv_at hl 1 rfl) ?_
      refine mz_geti S hG hM cf_7 fd_231 tw_204 dX8_sendCrows_72 k15 ?_
      refine lv_aload_n S.1 S.2.1 dX8_sendCrows_75 rfl (lv_at hl 1 rfl) ?_
      refine mz_aload_n (x := s0) S.1 S.2.1 dX8_sendCrows_76 rfl (lv_at hl 0 rfl) ?_
      refine mz_V S hG hM hS cf_7 k15 (As := [va_rf s0]) (rest := [.int (mI (sI (sI (sI μ 132 a12 (nI 102)) 64 a20 (nI 1)) 65 a27 (mI (sI (sI μ 132 a12 (nI 102)) 64 a20 (nI 1)) 128 a12)) 231 o), va_rf (mB (sI (sI (sI μ 132 a12 (nI 102)) 64 a20 (nI 1)) 65 a27 (mI (sI (sI μ 132 a12 (nI 102)) 64 a20 (nI 1)) 128 a12)) a30 x1.toNatClampNeg)]) (c_X8_flightLength h) yf_X8_flightLength tw_619 tw_621 ts_10 ⟨Nat.le_of_ble_eq_true rfl, Nat.le_of_ble_eq_true rfl⟩ ⟨(Nat.le_of_ble_eq_true rfl), (Nat.le_of_ble_eq_true rfl)⟩ rfl hl.1 rfl (by simp [mz_cat, mz_cr, mz_ci, mz_cl, mz_cf, mz_cd, mz_cn]) dX8_sendCrows_77 (fun v9 μ9 H locs hp hM hS => ?_)
      obtain ⟨u34, rfl, e9, h⟩ := hp
      rw [e9] at hM
      refine W.cs (cells' := 0) (slots' := 0) rfl rfl ?_
      refine lv_iadd S.1 S.2.1 dX8_sendCrows_80 ?_
      obtain ⟨a35, e36, h⟩ := h
      refine mz_o1 e36 ?_
      obtain ⟨k37, h⟩ := h
      refine mz_puti S hG hM hS cf_2 fd_66 tw_147 dX8_sendCrows_81 k37 rfl rfl (fun H locs hM hS hz9 => ?_)
      exact hB84 K2 kK2 x1 (sI (sI (sI (sI μ 132 a12 (nI 102)) 64 a20 (nI 1)) 65 a27 (mI (sI (sI μ 132 a12 (nI 102)) 64 a20 (nI 1)) 128 a12)) 66 a35 ((mI (sI (sI (sI μ 132 a12 (nI 102)) 64 a20 (nI 1)) 65 a27 (mI (sI (sI μ 132 a12 (nI 102)) 64 a20 (nI 1)) 128 a12)) 231 o) + u34)) H locs ls hM hS (lv_sub hl [1, 2] rfl) h
  have hB2 : ∀ (n : Nat) (x1 : Int32) (μ : mmT) (H : Heap) (locs : List Loc) (ls : Array Slot), Mm G μ H → va_S (Ah G) s.heap H locs → lv_has ls 3 [(0, .ref o), (1, .int x1)] → w_X8_sendCrows_l2 G o Q  n x1 μ → W p l e { frames := 2, cells := 0, slots := 0, locals := 44 } s m args below meth c H locs (0) (0) (MQ below (mQ G (pV Q)) args s 0 0 (Ah G)) (F0 m 2 ls []) := by
    intro  n
    induction n with
    | zero =>
      intro x1 μ H locs ls hM hS hl h
      exact False.elim h
    | succ n ih =>
      intro x1 μ H locs ls hM hS hl h
      have h : w_X8_sendCrows_b2 G o Q  (w_X8_sendCrows_l2 G o Q  n) x1 μ := h
      unfold w_X8_sendCrows_b2 at h
      refine lv_iload_n S.1 S.2.1 dX8_sendCrows_2 rfl (lv_at hl 1 rfl) ?_
      refine lv_aload_n S.1 S.2.1 dX8_sendCrows_3 rfl (lv_at hl 0 rfl) ?_
      obtain ⟨k1, h⟩ := h
      refine mz_geti S hG hM cf_7 fd_229 tw_200 dX8_sendCrows_4 k1 ?_
      refine lv_icmp_ge (tgt := 90) S.1 S.2.1 dX8_sendCrows_7 (by decide) (fun c2 => ?_) (fun c2 => ?_)
      · have h := h.1 c2
        exact mz_vret S hr hlk hM hS (Nat.le_of_ble_eq_true rfl) (Nat.le_of_ble_eq_true rfl) dX8_sendCrows_90 ⟨rfl, h⟩
      · have h := h.2 c2
        refine lv_aload_n S.1 S.2.1 dX8_sendCrows_10 rfl (lv_at hl 0 rfl) ?_
        refine mz_getr S hG hM cf_7 fd_225 tw_193 dX8_sendCrows_11 k1 ?_
        refine lv_iload_n S.1 S.2.1 dX8_sendCrows_14 rfl (lv_at hl 1 rfl) ?_
        obtain ⟨a3, e4, h⟩ := h
        refine mz_o1 e4 ?_
        obtain ⟨k5, h⟩ := h
        obtain ⟨b6, h⟩ := h
        refine mz_aald (j := 6) S hG hM dX8_sendCrows_15 (by decide) rfl k5 b6 ?_
        obtain ⟨a7, e8, h⟩ := h
        refine mz_o0 e8 ?_
        obtain ⟨k9, h⟩ := h
        refine mz_geti S hG hM cf_2 fd_64 tw_141 dX8_sendCrows_16 k9 ?_
        refine lv_if_eq (tgt := 26) S.1 S.2.1 dX8_sendCrows_19 (by decide) (fun c10 => ?_) (fun c10 => ?_)
        · have h := h.1 c10
          refine lv_aload_n S.1 S.2.1 dX8_sendCrows_26 rfl (lv_at hl 0 rfl) ?_
          refine lv_iconst (v := (nI 0)) S.1 S.2.1 dX8_sendCrows_27 (by decide) ?_
          refine mz_V S hG hM hS cf_7 k1 (As := [.int (nI 0)]) (rest := []) (c_X8_waitingAtRank h) yf_X8_waitingAtRank tw_615 tw_616 tw_617 ⟨Nat.le_of_ble_eq_true rfl, Nat.le_of_ble_eq_true rfl⟩ ⟨(Nat.le_of_ble_eq_true rfl), (Nat.le_of_ble_eq_true rfl)⟩ rfl hl.1 rfl (Nat.le_of_ble_eq_true rfl) dX8_sendCrows_28 (fun v9 μ9 H locs hp hM hS => ?_)
          obtain ⟨ru11, rfl, e9, h⟩ := hp
          rw [e9] at hM
          refine W.cs (cells' := 0) (slots' := 0) rfl rfl ?_
          exact hB31 (w_X8_sendCrows_l2 G o Q  n) ih x1 ru11 μ H locs ls hM hS (lv_sub hl [0, 1] rfl) h
        · have h := h.2 c10
          refine lv_null S.1 S.2.1 dX8_sendCrows_22 ?_
          refine lv_goto (tgt := 31) S.1 S.2.1 dX8_sendCrows_23 (by decide) ?_
          exact hB31 (w_X8_sendCrows_l2 G o Q  n) ih x1 none μ H locs ls hM hS (lv_sub hl [0, 1] rfl) h
  intro H locs ls hM hS hl
  have hl : lv_has ls 3 [(0, .ref o)] := hl
  unfold w_X8_sendCrows at h
  refine lv_iconst (v := (nI 0)) S.1 S.2.1 dX8_sendCrows_0 (by decide) ?_
  refine lv_istore_n (lv' := [(1, .int (nI 0)), (0, .ref o)]) S.1 S.2.1 dX8_sendCrows_1 rfl hl (by decide) rfl (fun ls hl => ?_)
  obtain ⟨n9, h⟩ := h
  exact hB2  n9 (nI 0) μ H locs ls hM hS (lv_sub hl [1, 0] rfl) h
set_option maxRecDepth 100000 in
set_option maxHeartbeats 4000000 in
theorem c_X8_pass {l : Launch} {G : mgT} {μ : mmT} {o : Nat} {x1 : Int32} {Q : Int32 → mmT → Prop} (h : w_X8_pass G μ o x1 Q) : MC G l yX8_pass cX8_pass 4 (some .int) { frames := 5, cells := 0, slots := 0, locals := 149 } [.ref o, .int x1] μ (pI Q) := by
  refine mz_MC (by decide +kernel) (Nat.le_of_ble_eq_true rfl) (fun p e s m args below meth c S hG hr hlk hnm => ?_)
  have hB11 : ∀ (μ : mmT) (H : Heap) (locs : List Loc) (ls : Array Slot), Mm G μ H → va_S (Ah G) s.heap H locs → lv_has ls 4 [(0, .ref o)] → w_X8_pass_b11 G o Q  μ → W p l e { frames := 5, cells := 0, slots := 0, locals := 149 } s m args below meth c H locs (0) (0) (MQ below (mQ G (pI Q)) args s 0 0 (Ah G)) (F0 m 11 ls []) := by
    intro  μ H locs ls hM hS hl h
    unfold w_X8_pass_b11 at h
    refine lv_iconst (v := (-1)) S.1 S.2.1 dX8_pass_11 (by decide) ?_
    exact mz_iret S hr hlk hM hS rfl (Nat.le_of_ble_eq_true rfl) (Nat.le_of_ble_eq_true rfl) dX8_pass_12 ⟨_, rfl, h⟩
  have hB23 : ∀ (n : Nat) (x1 : Int32) (x2 : Int32) (x3 : Int32) (μ : mmT) (H : Heap) (locs : List Loc) (ls : Array Slot), Mm G μ H → va_S (Ah G) s.heap H locs → lv_has ls 4 [(0, .ref o), (1, .int x1), (2, .int x2), (3, .int x3)] → w_X8_pass_l23 G o Q  n x1 x2 x3 μ → W p l e { frames := 5, cells := 0, slots := 0, locals := 149 } s m args below meth c H locs (0) (0) (MQ below (mQ G (pI Q)) args s 0 0 (Ah G)) (F0 m 23 ls []) := by
    intro  n
    induction n with
    | zero =>
      intro x1 x2 x3 μ H locs ls hM hS hl h
      exact False.elim h
    | succ n ih =>
      intro x1 x2 x3 μ H locs ls hM hS hl h
      have h : w_X8_pass_b23 G o Q  (w_X8_pass_l23 G o Q  n) x1 x2 x3 μ := h
      unfold w_X8_pass_b23 at h
      refine lv_iload_n S.1 S.2.1 dX8_pass_23 rfl (lv_at hl 3 rfl) ?_
      refine lv_iload_n S.1 S.2.1 dX8_pass_24 rfl (lv_at hl 1 rfl) ?_
      refine lv_icmp_ge (tgt := 56) S.1 S.2.1 dX8_pass_25 (by decide) (fun c7 => ?_) (fun c7 => ?_)
      · have h := h.1 c7
        refine lv_aload_n S.1 S.2.1 dX8_pass_56 rfl (lv_at hl 0 rfl) ?_
        obtain ⟨k8, h⟩ := h
        refine mz_getr S hG hM cf_7 fd_227 tw_196 dX8_pass_57 k8 ?_
        obtain ⟨a9, e10, h⟩ := h
        refine mz_o0 e10 ?_
        obtain ⟨k11, h⟩ := h
        refine mz_geti S hG hM cf_8 fd_257 tw_66 dX8_pass_60 k11 ?_
        refine lv_iload_n S.1 S.2.1 dX8_pass_63 rfl (lv_at hl 2 rfl) ?_
        refine lv_isub S.1 S.2.1 dX8_pass_64 ?_
        exact mz_iret S hr hlk hM hS rfl (Nat.le_of_ble_eq_true rfl) (Nat.le_of_ble_eq_true rfl) dX8_pass_65 ⟨_, rfl, h⟩
      · have h := h.2 c7
        refine lv_aload_n S.1 S.2.1 dX8_pass_28 rfl (lv_at hl 0 rfl) ?_
        refine lv_dup S.1 S.2.1 dX8_pass_29 rfl ?_
        obtain ⟨k12, h⟩ := h
        refine mz_geti S hG hM cf_7 fd_231 tw_204 dX8_pass_30 k12 ?_
        refine lv_iconst (v := (nI 1)) S.1 S.2.1 dX8_pass_33 (by decide) ?_
        refine lv_iadd S.1 S.2.1 dX8_pass_34 ?_
        refine mz_puti S hG hM hS cf_7 fd_231 tw_204 dX8_pass_35 k12 rfl rfl (fun H locs hM hS hz9 => ?_)
        refine lv_aload_n S.1 S.2.1 dX8_pass_38 rfl (lv_at hl 0 rfl) ?_
        refine mz_V S hG hM hS cf_7 k12 (As := []) (rest := []) (c_X8_landCrows h) yf_X8_landCrows tw_566 tw_568 ts_4 ⟨Nat.le_of_ble_eq_true rfl, Nat.le_of_ble_eq_true rfl⟩ ⟨(Nat.le_of_ble_eq_true rfl), (Nat.le_of_ble_eq_true rfl)⟩ rfl hl.1 rfl (Nat.le_of_ble_eq_true rfl) dX8_pass_39 (fun v9 μ13 H locs hp hM hS => ?_)
        obtain ⟨rfl, h⟩ := hp
        refine W.cs (cells' := 0) (slots' := 0) rfl rfl ?_
        refine lv_aload_n S.1 S.2.1 dX8_pass_42 rfl (lv_at hl 0 rfl) ?_
        obtain ⟨k14, h⟩ := h
        refine mz_V S hG hM hS cf_7 k14 (As := []) (rest := []) (c_X8_wakeMessages h) yf_X8_wakeMessages tw_607 tw_609 ts_8 ⟨Nat.le_of_ble_eq_true rfl, Nat.le_of_ble_eq_true rfl⟩ ⟨(Nat.le_of_ble_eq_true rfl), (Nat.le_of_ble_eq_true rfl)⟩ rfl hl.1 rfl (Nat.le_of_ble_eq_true rfl) dX8_pass_43 (fun v9 μ15 H locs hp hM hS => ?_)
        obtain ⟨rfl, h⟩ := hp
        refine W.cs (cells' := 0) (slots' := 0) rfl rfl ?_
        refine lv_aload_n S.1 S.2.1 dX8_pass_46 rfl (lv_at hl 0 rfl) ?_
        obtain ⟨k16, h⟩ := h
        refine mz_V S hG hM hS cf_7 k16 (As := []) (rest := []) (c_X8_sendCrows h) yf_X8_sendCrows tw_611 tw_613 ts_9 ⟨Nat.le_of_ble_eq_true rfl, Nat.le_of_ble_eq_true rfl⟩ ⟨(Nat.le_of_ble_eq_true rfl), (Nat.le_of_ble_eq_true rfl)⟩ rfl hl.1 rfl (Nat.le_of_ble_eq_true rfl) dX8_pass_47 (fun v9 μ17 H locs hp hM hS => ?_)
        obtain ⟨rfl, h⟩ := hp
        refine W.cs (cells' := 0) (slots' := 0) rfl rfl ?_
        refine lv_iinc (v := (x3 + nI 1)) (lv' := [(3, .int (x3 + nI 1)), (0, .ref o), (1, .int x1), (2, .int x2)]) S.1 S.2.1 dX8_pass_50 hl (k := 3) rfl rfl (by decide) rfl (fun ls hl => ?_)
        refine lv_goto (tgt := 23) S.1 S.2.1 dX8_pass_53 (by decide) ?_
        exact ih x1 x2 (x3 + nI 1) μ17 H locs ls hM hS (lv_sub hl [1, 2, 3, 0] rfl) h
  intro H locs ls hM hS hl
  have hl : lv_has ls 4 [(0, .ref o), (1, .int x1)] := hl
  unfold w_X8_pass at h
  refine lv_iload_n S.1 S.2.1 dX8_pass_0 rfl (lv_at hl 1 rfl) ?_
  refine lv_iconst (v := (nI 1)) S.1 S.2.1 dX8_pass_1 (by decide) ?_
  refine lv_icmp_lt (tgt := 11) S.1 S.2.1 dX8_pass_2 (by decide) (fun c1 => ?_) (fun c1 => ?_)
  · have h := h.1 c1
    exact hB11  μ H locs ls hM hS (lv_sub hl [0] rfl) h
  · have h := h.2 c1
    refine lv_iload_n S.1 S.2.1 dX8_pass_5 rfl (lv_at hl 1 rfl) ?_
    refine lv_bipush (v := (nI 100)) S.1 S.2.1 dX8_pass_6 (by decide) ?_
    refine lv_icmp_le (tgt := 13) S.1 S.2.1 dX8_pass_8 (by decide) (fun c2 => ?_) (fun c2 => ?_)
    · have h := h.1 c2
      refine lv_aload_n S.1 S.2.1 dX8_pass_13 rfl (lv_at hl 0 rfl) ?_
      obtain ⟨k3, h⟩ := h
      refine mz_getr S hG hM cf_7 fd_227 tw_196 dX8_pass_14 k3 ?_
      obtain ⟨a4, e5, h⟩ := h
      refine mz_o0 e5 ?_
      obtain ⟨k6, h⟩ := h
      refine mz_geti S hG hM cf_8 fd_257 tw_66 dX8_pass_17 k6 ?_
      refine lv_istore_n (lv' := [(2, .int (mI μ 257 a4)), (0, .ref o), (1, .int x1)]) S.1 S.2.1 dX8_pass_20 rfl hl (by decide) rfl (fun ls hl => ?_)
      refine lv_iconst (v := (nI 0)) S.1 S.2.1 dX8_pass_21 (by decide) ?_
      refine lv_istore_n (lv' := [(3, .int (nI 0)), (2, .int (mI μ 257 a4)), (0, .ref o), (1, .int x1)]) S.1 S.2.1 dX8_pass_22 rfl hl (by decide) rfl (fun ls hl => ?_)
      obtain ⟨n9, h⟩ := h
      exact hB23  n9 x1 (mI μ 257 a4) (nI 0) μ H locs ls hM hS (lv_sub hl [2, 3, 1, 0] rfl) h
    · have h := h.2 c2
      exact hB11  μ H locs ls hM hS (lv_sub hl [0] rfl) h
set_option maxRecDepth 100000 in
set_option maxHeartbeats 4000000 in
theorem c_X8_openNest {l : Launch} {G : mgT} {μ : mmT} {o : Nat} {x1 : Int32} {x2 : Int32} {Q : Int32 → mmT → Prop} (h : w_X8_openNest G μ o x1 x2 Q) : MC G l yX8_openNest cX8_openNest 4 (some .int) { frames := 1, cells := 0, slots := 0, locals := 22 } [.ref o, .int x1, .int x2] μ (pI Q) := by
  refine mz_MC (by decide +kernel) (Nat.le_of_ble_eq_true rfl) (fun p e s m args below meth c S hG hr hlk hnm => ?_)
  have hB20 : ∀ (μ : mmT) (H : Heap) (locs : List Loc) (ls : Array Slot), Mm G μ H → va_S (Ah G) s.heap H locs → lv_has ls 4 [(0, .ref o)] → w_X8_openNest_b20 G o Q  μ → W p l e { frames := 1, cells := 0, slots := 0, locals := 22 } s m args below meth c H locs (0) (0) (MQ below (mQ G (pI Q)) args s 0 0 (Ah G)) (F0 m 20 ls []) := by
    intro  μ H locs ls hM hS hl h
    unfold w_X8_openNest_b20 at h
    refine lv_iconst (v := (-1)) S.1 S.2.1 dX8_openNest_20 (by decide) ?_
    exact mz_iret S hr hlk hM hS rfl (Nat.le_of_ble_eq_true rfl) (Nat.le_of_ble_eq_true rfl) dX8_openNest_21 ⟨_, rfl, h⟩
  intro H locs ls hM hS hl
  have hl : lv_has ls 4 [(0, .ref o), (1, .int x1), (2, .int x2)] := hl
  unfold w_X8_openNest at h
  refine lv_iload_n S.1 S.2.1 dX8_openNest_0 rfl (lv_at hl 1 rfl) ?_
  refine lv_iconst (v := (nI 1)) S.1 S.2.1 dX8_openNest_1 (by decide) ?_
  refine lv_icmp_lt (tgt := 20) S.1 S.2.1 dX8_openNest_2 (by decide) (fun c1 => ?_) (fun c1 => ?_)
  · have h := h.1 c1
    exact hB20  μ H locs ls hM hS (lv_sub hl [0] rfl) h
  · have h := h.2 c1
    refine lv_iload_n S.1 S.2.1 dX8_openNest_5 rfl (lv_at hl 1 rfl) ?_
    refine lv_bipush (v := (nI 9)) S.1 S.2.1 dX8_openNest_6 (by decide) ?_
    refine lv_icmp_gt (tgt := 20) S.1 S.2.1 dX8_openNest_8 (by decide) (fun c2 => ?_) (fun c2 => ?_)
    · have h := h.1 c2
      exact hB20  μ H locs ls hM hS (lv_sub hl [0] rfl) h
    · have h := h.2 c2
      refine lv_iload_n S.1 S.2.1 dX8_openNest_11 rfl (lv_at hl 2 rfl) ?_
      refine lv_if_lt (tgt := 20) S.1 S.2.1 dX8_openNest_12 (by decide) (fun c3 => ?_) (fun c3 => ?_)
      · have h := h.1 c3
        exact hB20  μ H locs ls hM hS (lv_sub hl [0] rfl) h
      · have h := h.2 c3
        refine lv_iload_n S.1 S.2.1 dX8_openNest_15 rfl (lv_at hl 2 rfl) ?_
        refine lv_iconst (v := (nI 4)) S.1 S.2.1 dX8_openNest_16 (by decide) ?_
        refine lv_icmp_le (tgt := 22) S.1 S.2.1 dX8_openNest_17 (by decide) (fun c4 => ?_) (fun c4 => ?_)
        · have h := h.1 c4
          refine lv_aload_n S.1 S.2.1 dX8_openNest_22 rfl (lv_at hl 0 rfl) ?_
          obtain ⟨k5, h⟩ := h
          refine mz_geti S hG hM cf_7 fd_228 tw_198 dX8_openNest_23 k5 ?_
          refine lv_bipush (v := (nI 6)) S.1 S.2.1 dX8_openNest_26 (by decide) ?_
          refine lv_icmp_lt (tgt := 34) S.1 S.2.1 dX8_openNest_28 (by decide) (fun c6 => ?_) (fun c6 => ?_)
          · have h := h.1 c6
            refine lv_aload_n S.1 S.2.1 dX8_openNest_34 rfl (lv_at hl 0 rfl) ?_
            refine mz_geti S hG hM cf_7 fd_228 tw_198 dX8_openNest_35 k5 ?_
            refine lv_istore_n (lv' := [(3, .int (mI μ 228 o)), (0, .ref o), (1, .int x1), (2, .int x2)]) S.1 S.2.1 dX8_openNest_38 rfl hl (by decide) rfl (fun ls hl => ?_)
            refine lv_aload_n S.1 S.2.1 dX8_openNest_39 rfl (lv_at hl 1 rfl) ?_
            refine mz_getr S hG hM cf_7 fd_224 tw_192 dX8_openNest_40 k5 ?_
            refine lv_iload_n S.1 S.2.1 dX8_openNest_43 rfl (lv_at hl 0 rfl) ?_
            obtain ⟨a7, e8, h⟩ := h
            refine mz_o1 e8 ?_
            obtain ⟨k9, h⟩ := h
            obtain ⟨b10, h⟩ := h
            refine mz_aald (j := 8) S hG hM dX8_openNest_44 (by decide) rfl k9 b10 ?_
            refine lv_iload_n S.1 S.2.1 dX8_openNest_45 rfl (lv_at hl 2 rfl) ?_
            refine lv_iload_n S.1 S.2.1 dX8_openNest_46 rfl (lv_at hl 3 rfl) ?_
            obtain ⟨a11, e12, h⟩ := h
            refine mz_o2 e12 ?_
            obtain ⟨k13, h⟩ := h
            refine mz_V S hG hM hS cf_5 k13 (As := [.int x1, .int x2]) (rest := []) (c_X6_open h) yf_X6_open tw_643 tw_644 tw_645 ⟨Nat.le_of_ble_eq_true rfl, Nat.le_of_ble_eq_true rfl⟩ ⟨(Nat.le_of_ble_eq_true rfl), (Nat.le_of_ble_eq_true rfl)⟩ rfl hl.1 rfl (Nat.le_of_ble_eq_true rfl) dX8_openNest_47 (fun v9 μ14 H locs hp hM hS => ?_)
            obtain ⟨rfl, h⟩ := hp
            refine W.cs (cells' := 0) (slots' := 0) rfl rfl ?_
            refine lv_aload_n S.1 S.2.1 dX8_openNest_50 rfl (lv_at hl 1 rfl) ?_
            refine lv_dup S.1 S.2.1 dX8_openNest_51 rfl ?_
            obtain ⟨k15, h⟩ := h
            refine mz_geti S hG hM cf_7 fd_228 tw_198 dX8_openNest_52 k15 ?_
            refine lv_iconst (v := (nI 1)) S.1 S.2.1 dX8_openNest_55 (by decide) ?_
            refine lv_iadd S.1 S.2.1 dX8_openNest_56 ?_
            refine mz_puti S hG hM hS cf_7 fd_228 tw_198 dX8_openNest_57 k15 rfl rfl (fun H locs hM hS hz9 => ?_)
            refine lv_iload_n S.1 S.2.1 dX8_openNest_60 rfl (lv_at hl 0 rfl) ?_
            exact mz_iret S hr hlk hM hS rfl (Nat.le_of_ble_eq_true rfl) (Nat.le_of_ble_eq_true rfl) dX8_openNest_61 ⟨_, rfl, h⟩
          · have h := h.2 c6
            refine lv_bipush (v := (-2)) S.1 S.2.1 dX8_openNest_31 (by decide) ?_
            exact mz_iret S hr hlk hM hS rfl (Nat.le_of_ble_eq_true rfl) (Nat.le_of_ble_eq_true rfl) dX8_openNest_33 ⟨_, rfl, h⟩
        · have h := h.2 c4
          exact hB20  μ H locs ls hM hS (lv_sub hl [0] rfl) h
set_option maxRecDepth 100000 in
set_option maxHeartbeats 4000000 in
theorem c_X8_hireCrow {l : Launch} {G : mgT} {μ : mmT} {o : Nat} {Q : Int32 → mmT → Prop} (h : w_X8_hireCrow G μ o Q) : MC G l yX8_hireCrow cX8_hireCrow 2 (some .int) { frames := 0, cells := 0, slots := 0, locals := 0 } [.ref o] μ (pI Q) := by
  refine mz_MC (by decide +kernel) (Nat.le_of_ble_eq_true rfl) (fun p e s m args below meth c S hG hr hlk hnm => ?_)
  intro H locs ls hM hS hl
  have hl : lv_has ls 2 [(0, .ref o)] := hl
  unfold w_X8_hireCrow at h
  refine lv_aload_n S.1 S.2.1 dX8_hireCrow_0 rfl (lv_at hl 0 rfl) ?_
  obtain ⟨k1, h⟩ := h
  refine mz_geti S hG hM cf_7 fd_229 tw_200 dX8_hireCrow_1 k1 ?_
  refine lv_iconst (v := (nI 4)) S.1 S.2.1 dX8_hireCrow_4 (by decide) ?_
  refine lv_icmp_lt (tgt := 11) S.1 S.2.1 dX8_hireCrow_5 (by decide) (fun c2 => ?_) (fun c2 => ?_)
  · have h := h.1 c2
    refine lv_aload_n S.1 S.2.1 dX8_hireCrow_11 rfl (lv_at hl 0 rfl) ?_
    refine mz_geti S hG hM cf_7 fd_229 tw_200 dX8_hireCrow_12 k1 ?_
    refine lv_istore_n (lv' := [(1, .int (mI μ 229 o)), (0, .ref o)]) S.1 S.2.1 dX8_hireCrow_15 rfl hl (by decide) rfl (fun ls hl => ?_)
    refine lv_aload_n S.1 S.2.1 dX8_hireCrow_16 rfl (lv_at hl 1 rfl) ?_
    refine mz_getr S hG hM cf_7 fd_225 tw_193 dX8_hireCrow_17 k1 ?_
    refine lv_iload_n S.1 S.2.1 dX8_hireCrow_20 rfl (lv_at hl 0 rfl) ?_
    obtain ⟨a3, e4, h⟩ := h
    refine mz_o1 e4 ?_
    obtain ⟨k5, h⟩ := h
    obtain ⟨b6, h⟩ := h
    refine mz_aald (j := 6) S hG hM dX8_hireCrow_21 (by decide) rfl k5 b6 ?_
    refine lv_iconst (v := (nI 0)) S.1 S.2.1 dX8_hireCrow_22 (by decide) ?_
    obtain ⟨a7, e8, h⟩ := h
    refine mz_o1 e8 ?_
    obtain ⟨k9, h⟩ := h
    refine mz_puti S hG hM hS cf_2 fd_64 tw_141 dX8_hireCrow_23 k9 rfl rfl (fun H locs hM hS hz9 => ?_)
    refine lv_aload_n S.1 S.2.1 dX8_hireCrow_26 rfl (lv_at hl 1 rfl) ?_
    refine lv_dup S.1 S.2.1 dX8_hireCrow_27 rfl ?_
    refine mz_geti S hG hM cf_7 fd_229 tw_200 dX8_hireCrow_28 k1 ?_
    refine lv_iconst (v := (nI 1)) S.1 S.2.1 dX8_hireCrow_31 (by decide) ?_
    refine lv_iadd S.1 S.2.1 dX8_hireCrow_32 ?_
    refine mz_puti S hG hM hS cf_7 fd_229 tw_200 dX8_hireCrow_33 k1 rfl rfl (fun H locs hM hS hz9 => ?_)
    refine lv_iload_n S.1 S.2.1 dX8_hireCrow_36 rfl (lv_at hl 0 rfl) ?_
    exact mz_iret S hr hlk hM hS rfl (Nat.le_of_ble_eq_true rfl) (Nat.le_of_ble_eq_true rfl) dX8_hireCrow_37 ⟨_, rfl, h⟩
  · have h := h.2 c2
    refine lv_bipush (v := (-2)) S.1 S.2.1 dX8_hireCrow_8 (by decide) ?_
    exact mz_iret S hr hlk hM hS rfl (Nat.le_of_ble_eq_true rfl) (Nat.le_of_ble_eq_true rfl) dX8_hireCrow_10 ⟨_, rfl, h⟩
set_option maxRecDepth 100000 in
set_option maxHeartbeats 4000000 in
theorem c_X8_post {l : Launch} {G : mgT} {μ : mmT} {o : Nat} {x1 : Int32} {x2 : Int32} {Q : Int32 → mmT → Prop} (h : w_X8_post G μ o x1 x2 Q) : MC G l yX8_post cX8_post 4 (some .int) { frames := 1, cells := 0, slots := 0, locals := 23 } [.ref o, .int x1, .int x2] μ (pI Q) := by
  refine mz_MC (by decide +kernel) (Nat.le_of_ble_eq_true rfl) (fun p e s m args below meth c S hG hr hlk hnm => ?_)
  have hB21 : ∀ (μ : mmT) (H : Heap) (locs : List Loc) (ls : Array Slot), Mm G μ H → va_S (Ah G) s.heap H locs → lv_has ls 4 [(0, .ref o)] → w_X8_post_b21 G o Q  μ → W p l e { frames := 1, cells := 0, slots := 0, locals := 23 } s m args below meth c H locs (0) (0) (MQ below (mQ G (pI Q)) args s 0 0 (Ah G)) (F0 m 21 ls []) := by
    intro  μ H locs ls hM hS hl h
    unfold w_X8_post_b21 at h
    refine lv_iconst (v := (-1)) S.1 S.2.1 dX8_post_21 (by decide) ?_
    exact mz_iret S hr hlk hM hS rfl (Nat.le_of_ble_eq_true rfl) (Nat.le_of_ble_eq_true rfl) dX8_post_22 ⟨_, rfl, h⟩
  intro H locs ls hM hS hl
  have hl : lv_has ls 4 [(0, .ref o), (1, .int x1), (2, .int x2)] := hl
  unfold w_X8_post at h
  refine lv_aload_n S.1 S.2.1 dX8_post_0 rfl (lv_at hl 0 rfl) ?_
  refine lv_iload_n S.1 S.2.1 dX8_post_1 rfl (lv_at hl 1 rfl) ?_
  obtain ⟨k1, h⟩ := h
  refine mz_V S hG hM hS cf_7 k1 (As := [.int x1]) (rest := []) (c_X8_nestAt h) yf_X8_nestAt tw_575 tw_576 tw_577 ⟨Nat.le_of_ble_eq_true rfl, Nat.le_of_ble_eq_true rfl⟩ ⟨(Nat.le_of_ble_eq_true rfl), (Nat.le_of_ble_eq_true rfl)⟩ rfl hl.1 rfl (Nat.le_of_ble_eq_true rfl) dX8_post_2 (fun v9 μ9 H locs hp hM hS => ?_)
  obtain ⟨ru2, rfl, e9, h⟩ := hp
  rw [e9] at hM
  refine W.cs (cells' := 0) (slots' := 0) rfl rfl ?_
  refine mz_ifnonnull (tgt := 11) S.1 S.2.1 dX8_post_5 (by decide) (fun a3 e4 => ?_) (fun e4 => ?_)
  · have h := h.2 a3 e4
    refine lv_iload_n S.1 S.2.1 dX8_post_11 rfl (lv_at hl 2 rfl) ?_
    refine lv_if_lt (tgt := 21) S.1 S.2.1 dX8_post_12 (by decide) (fun c5 => ?_) (fun c5 => ?_)
    · have h := h.1 c5
      exact hB21  μ H locs ls hM hS (lv_sub hl [0] rfl) h
    · have h := h.2 c5
      refine lv_iload_n S.1 S.2.1 dX8_post_15 rfl (lv_at hl 2 rfl) ?_
      refine lv_bipush (v := (nI 99)) S.1 S.2.1 dX8_post_16 (by decide) ?_
      refine lv_icmp_le (tgt := 23) S.1 S.2.1 dX8_post_18 (by decide) (fun c6 => ?_) (fun c6 => ?_)
      · have h := h.1 c6
        refine lv_aload_n S.1 S.2.1 dX8_post_23 rfl (lv_at hl 0 rfl) ?_
        refine mz_geti S hG hM cf_7 fd_230 tw_202 dX8_post_24 k1 ?_
        refine lv_bipush (v := (nI 16)) S.1 S.2.1 dX8_post_27 (by decide) ?_
        refine lv_icmp_lt (tgt := 35) S.1 S.2.1 dX8_post_29 (by decide) (fun c7 => ?_) (fun c7 => ?_)
        · have h := h.1 c7
          refine lv_aload_n S.1 S.2.1 dX8_post_35 rfl (lv_at hl 0 rfl) ?_
          refine mz_getr S hG hM cf_7 fd_227 tw_196 dX8_post_36 k1 ?_
          obtain ⟨a8, e9, h⟩ := h
          refine mz_o0 e9 ?_
          obtain ⟨k10, h⟩ := h
          refine mz_geti S hG hM cf_8 fd_256 tw_63 dX8_post_39 k10 ?_
          refine lv_istore_n (lv' := [(3, .int (mI μ 256 a8)), (0, .ref o), (1, .int x1), (2, .int x2)]) S.1 S.2.1 dX8_post_42 rfl hl (by decide) rfl (fun ls hl => ?_)
          refine lv_aload_n S.1 S.2.1 dX8_post_43 rfl (lv_at hl 1 rfl) ?_
          refine mz_getr S hG hM cf_7 fd_226 tw_194 dX8_post_44 k1 ?_
          refine lv_aload_n S.1 S.2.1 dX8_post_47 rfl (lv_at hl 1 rfl) ?_
          refine mz_geti S hG hM cf_7 fd_230 tw_202 dX8_post_48 k1 ?_
          obtain ⟨a11, e12, h⟩ := h
          refine mz_o1 e12 ?_
          obtain ⟨k13, h⟩ := h
          obtain ⟨b14, h⟩ := h
          refine mz_aald (j := 7) S hG hM dX8_post_51 (by decide) rfl k13 b14 ?_
          refine lv_iload_n S.1 S.2.1 dX8_post_52 rfl (lv_at hl 0 rfl) ?_
          refine lv_iload_n S.1 S.2.1 dX8_post_53 rfl (lv_at hl 2 rfl) ?_
          refine lv_iload_n S.1 S.2.1 dX8_post_54 rfl (lv_at hl 3 rfl) ?_
          obtain ⟨a15, e16, h⟩ := h
          refine mz_o3 e16 ?_
          obtain ⟨k17, h⟩ := h
          refine mz_V S hG hM hS cf_4 k17 (As := [.int (mI μ 256 a8), .int x1, .int x2]) (rest := []) (c_X5_write h) yf_X5_write tw_743 tw_744 tw_745 ⟨Nat.le_of_ble_eq_true rfl, Nat.le_of_ble_eq_true rfl⟩ ⟨(Nat.le_of_ble_eq_true rfl), (Nat.le_of_ble_eq_true rfl)⟩ rfl hl.1 rfl (Nat.le_of_ble_eq_true rfl) dX8_post_55 (fun v9 μ18 H locs hp hM hS => ?_)
          obtain ⟨rfl, h⟩ := hp
          refine W.cs (cells' := 0) (slots' := 0) rfl rfl ?_
          refine lv_aload_n S.1 S.2.1 dX8_post_58 rfl (lv_at hl 1 rfl) ?_
          refine lv_dup S.1 S.2.1 dX8_post_59 rfl ?_
          obtain ⟨k19, h⟩ := h
          refine mz_geti S hG hM cf_7 fd_230 tw_202 dX8_post_60 k19 ?_
          refine lv_iconst (v := (nI 1)) S.1 S.2.1 dX8_post_63 (by decide) ?_
          refine lv_iadd S.1 S.2.1 dX8_post_64 ?_
          refine mz_puti S hG hM hS cf_7 fd_230 tw_202 dX8_post_65 k19 rfl rfl (fun H locs hM hS hz9 => ?_)
          refine lv_aload_n S.1 S.2.1 dX8_post_68 rfl (lv_at hl 1 rfl) ?_
          refine mz_getr S hG hM cf_7 fd_227 tw_196 dX8_post_69 k19 ?_
          refine lv_dup S.1 S.2.1 dX8_post_72 (mz_cat _) ?_
          obtain ⟨a20, e21, h⟩ := h
          refine mz_o0 e21 ?_
          obtain ⟨k22, h⟩ := h
          refine mz_geti S hG hM cf_8 fd_256 tw_63 dX8_post_73 k22 ?_
          refine lv_iconst (v := (nI 1)) S.1 S.2.1 dX8_post_76 (by decide) ?_
          refine lv_iadd S.1 S.2.1 dX8_post_77 ?_
          refine mz_o1 e21 ?_
          refine mz_puti S hG hM hS cf_8 fd_256 tw_63 dX8_post_78 k22 rfl rfl (fun H locs hM hS hz9 => ?_)
          refine lv_iload_n S.1 S.2.1 dX8_post_81 rfl (lv_at hl 0 rfl) ?_
          exact mz_iret S hr hlk hM hS rfl (Nat.le_of_ble_eq_true rfl) (Nat.le_of_ble_eq_true rfl) dX8_post_82 ⟨_, rfl, h⟩
        · have h := h.2 c7
          refine lv_bipush (v := (-2)) S.1 S.2.1 dX8_post_32 (by decide) ?_
          exact mz_iret S hr hlk hM hS rfl (Nat.le_of_ble_eq_true rfl) (Nat.le_of_ble_eq_true rfl) dX8_post_34 ⟨_, rfl, h⟩
      · have h := h.2 c6
        exact hB21  μ H locs ls hM hS (lv_sub hl [0] rfl) h
  · have h := h.1 e4
    refine lv_bipush (v := (-3)) S.1 S.2.1 dX8_post_8 (by decide) ?_
    exact mz_iret S hr hlk hM hS rfl (Nat.le_of_ble_eq_true rfl) (Nat.le_of_ble_eq_true rfl) dX8_post_10 ⟨_, rfl, h⟩
set_option maxRecDepth 100000 in
set_option maxHeartbeats 4000000 in
theorem c_X8_handOver {l : Launch} {G : mgT} {μ : mmT} {o : Nat} {x1 : Int32} {Q : Int32 → mmT → Prop} (h : w_X8_handOver G μ o x1 Q) : MC G l yX8_handOver cX8_handOver 4 (some .int) { frames := 2, cells := 0, slots := 0, locals := 81 } [.ref o, .int x1] μ (pI Q) := by
  refine mz_MC (by decide +kernel) (Nat.le_of_ble_eq_true rfl) (fun p e s m args below meth c S hG hr hlk hnm => ?_)
  intro H locs ls hM hS hl
  have hl : lv_has ls 4 [(0, .ref o), (1, .int x1)] := hl
  unfold w_X8_handOver at h
  refine lv_aload_n S.1 S.2.1 dX8_handOver_0 rfl (lv_at hl 0 rfl) ?_
  refine lv_iload_n S.1 S.2.1 dX8_handOver_1 rfl (lv_at hl 1 rfl) ?_
  obtain ⟨k1, h⟩ := h
  refine mz_V S hG hM hS cf_7 k1 (As := [.int x1]) (rest := []) (c_X8_nestAt h) yf_X8_nestAt tw_575 tw_576 tw_577 ⟨Nat.le_of_ble_eq_true rfl, Nat.le_of_ble_eq_true rfl⟩ ⟨(Nat.le_of_ble_eq_true rfl), (Nat.le_of_ble_eq_true rfl)⟩ rfl hl.1 rfl (Nat.le_of_ble_eq_true rfl) dX8_handOver_2 (fun v9 μ9 H locs hp hM hS => ?_)
  obtain ⟨ru2, rfl, e9, h⟩ := hp
  rw [e9] at hM
  refine W.cs (cells' := 0) (slots' := 0) rfl rfl ?_
  refine mz_astore_n (x := ru2) (lv' := [(2, va_rf ru2), (0, .ref o), (1, .int x1)]) S.1 S.2.1 dX8_handOver_5 rfl hl (by decide) rfl (fun ls hl => ?_)
  refine mz_aload_n (x := ru2) S.1 S.2.1 dX8_handOver_6 rfl (lv_at hl 0 rfl) ?_
  refine mz_ifnonnull (tgt := 13) S.1 S.2.1 dX8_handOver_7 (by decide) (fun a3 e4 => ?_) (fun e4 => ?_)
  · have h := h.2 a3 e4
    refine mz_aload_n (x := ru2) S.1 S.2.1 dX8_handOver_13 rfl (lv_at hl 0 rfl) ?_
    refine mz_o0 e4 ?_
    obtain ⟨k5, h⟩ := h
    refine mz_geti S hG hM cf_5 fd_165 tw_114 dX8_handOver_14 k5 ?_
    refine lv_if_ne (tgt := 23) S.1 S.2.1 dX8_handOver_17 (by decide) (fun c6 => ?_) (fun c6 => ?_)
    · have h := h.1 c6
      refine mz_aload_n (x := ru2) S.1 S.2.1 dX8_handOver_23 rfl (lv_at hl 0 rfl) ?_
      refine mz_o0 e4 ?_
      refine mz_V S hG hM hS cf_5 k5 (As := []) (rest := []) (c_X6_takeFirst h) yf_X6_takeFirst tw_758 tw_759 tw_760 ⟨Nat.le_of_ble_eq_true rfl, Nat.le_of_ble_eq_true rfl⟩ ⟨(Nat.le_of_ble_eq_true rfl), (Nat.le_of_ble_eq_true rfl)⟩ rfl hl.1 rfl (Nat.le_of_ble_eq_true rfl) dX8_handOver_24 (fun v9 μ8 H locs hp hM hS => ?_)
      obtain ⟨u7, rfl, h⟩ := hp
      refine W.cs (cells' := 0) (slots' := 0) rfl rfl ?_
      refine lv_istore_n (i := 3) (lv' := [(3, .int u7), (2, va_rf ru2), (0, .ref o), (1, .int x1)]) S.1 S.2.1 dX8_handOver_27 rfl hl (by decide) (by simp [List.filter, mz_cat]) (fun ls hl => ?_)
      refine lv_aload_n S.1 S.2.1 dX8_handOver_28 rfl (lv_at hl 2 rfl) ?_
      refine lv_iload_n S.1 S.2.1 dX8_handOver_29 rfl (lv_at hl 0 rfl) ?_
      obtain ⟨k9, h⟩ := h
      refine mz_V S hG hM hS cf_7 k9 (As := [.int u7]) (rest := []) (c_X8_remove h) yf_X8_remove tw_587 tw_589 ts_6 ⟨Nat.le_of_ble_eq_true rfl, Nat.le_of_ble_eq_true rfl⟩ ⟨(Nat.le_of_ble_eq_true rfl), (Nat.le_of_ble_eq_true rfl)⟩ rfl hl.1 rfl (Nat.le_of_ble_eq_true rfl) dX8_handOver_30 (fun v9 μ10 H locs hp hM hS => ?_)
      obtain ⟨rfl, h⟩ := hp
      refine W.cs (cells' := 0) (slots' := 0) rfl rfl ?_
      refine lv_aload_n S.1 S.2.1 dX8_handOver_33 rfl (lv_at hl 2 rfl) ?_
      obtain ⟨k11, h⟩ := h
      refine mz_getr S hG hM cf_7 fd_227 tw_196 dX8_handOver_34 k11 ?_
      refine lv_dup S.1 S.2.1 dX8_handOver_37 (mz_cat _) ?_
      obtain ⟨a12, e13, h⟩ := h
      refine mz_o0 e13 ?_
      obtain ⟨k14, h⟩ := h
      refine mz_geti S hG hM cf_8 fd_258 tw_69 dX8_handOver_38 k14 ?_
      refine lv_iconst (v := (nI 1)) S.1 S.2.1 dX8_handOver_41 (by decide) ?_
      refine lv_iadd S.1 S.2.1 dX8_handOver_42 ?_
      refine mz_o1 e13 ?_
      refine mz_puti S hG hM hS cf_8 fd_258 tw_69 dX8_handOver_43 k14 rfl rfl (fun H locs hM hS hz9 => ?_)
      refine lv_iload_n S.1 S.2.1 dX8_handOver_46 rfl (lv_at hl 0 rfl) ?_
      exact mz_iret S hr hlk hM hS rfl (Nat.le_of_ble_eq_true rfl) (Nat.le_of_ble_eq_true rfl) dX8_handOver_47 ⟨_, rfl, h⟩
    · have h := h.2 c6
      refine lv_bipush (v := (-4)) S.1 S.2.1 dX8_handOver_20 (by decide) ?_
      exact mz_iret S hr hlk hM hS rfl (Nat.le_of_ble_eq_true rfl) (Nat.le_of_ble_eq_true rfl) dX8_handOver_22 ⟨_, rfl, h⟩
  · have h := h.1 e4
    refine lv_bipush (v := (-3)) S.1 S.2.1 dX8_handOver_10 (by decide) ?_
    exact mz_iret S hr hlk hM hS rfl (Nat.le_of_ble_eq_true rfl) (Nat.le_of_ble_eq_true rfl) dX8_handOver_12 ⟨_, rfl, h⟩
set_option maxRecDepth 100000 in
set_option maxHeartbeats 4000000 in
theorem c_X8_withdraw {l : Launch} {G : mgT} {μ : mmT} {o : Nat} {x1 : Int32} {Q : Int32 → mmT → Prop} (h : w_X8_withdraw G μ o x1 Q) : MC G l yX8_withdraw cX8_withdraw 3 (some .int) { frames := 2, cells := 0, slots := 0, locals := 46 } [.ref o, .int x1] μ (pI Q) := by
  refine mz_MC (by decide +kernel) (Nat.le_of_ble_eq_true rfl) (fun p e s m args below meth c S hG hr hlk hnm => ?_)
  have hB31 : ∀ (μ : mmT) (H : Heap) (locs : List Loc) (ls : Array Slot), Mm G μ H → va_S (Ah G) s.heap H locs → lv_has ls 3 [(0, .ref o)] → w_X8_withdraw_b31 G o Q  μ → W p l e { frames := 2, cells := 0, slots := 0, locals := 46 } s m args below meth c H locs (0) (0) (MQ below (mQ G (pI Q)) args s 0 0 (Ah G)) (F0 m 31 ls []) := by
    intro  μ H locs ls hM hS hl h
    unfold w_X8_withdraw_b31 at h
    refine lv_bipush (v := (-2)) S.1 S.2.1 dX8_withdraw_31 (by decide) ?_
    exact mz_iret S hr hlk hM hS rfl (Nat.le_of_ble_eq_true rfl) (Nat.le_of_ble_eq_true rfl) dX8_withdraw_33 ⟨_, rfl, h⟩
  intro H locs ls hM hS hl
  have hl : lv_has ls 3 [(0, .ref o), (1, .int x1)] := hl
  unfold w_X8_withdraw at h
  refine lv_aload_n S.1 S.2.1 dX8_withdraw_0 rfl (lv_at hl 0 rfl) ?_
  refine lv_iload_n S.1 S.2.1 dX8_withdraw_1 rfl (lv_at hl 1 rfl) ?_
  obtain ⟨k1, h⟩ := h
  refine mz_V S hG hM hS cf_7 k1 (As := [.int x1]) (rest := []) (c_X8_messageWith h) yf_X8_messageWith tw_574 tw_495 tw_496 ⟨Nat.le_of_ble_eq_true rfl, Nat.le_of_ble_eq_true rfl⟩ ⟨(Nat.le_of_ble_eq_true rfl), (Nat.le_of_ble_eq_true rfl)⟩ rfl hl.1 rfl (Nat.le_of_ble_eq_true rfl) dX8_withdraw_2 (fun v9 μ9 H locs hp hM hS => ?_)
  obtain ⟨ru2, rfl, e9, h⟩ := hp
  rw [e9] at hM
  refine W.cs (cells' := 0) (slots' := 0) rfl rfl ?_
  refine mz_astore_n (x := ru2) (lv' := [(2, va_rf ru2), (0, .ref o), (1, .int x1)]) S.1 S.2.1 dX8_withdraw_5 rfl hl (by decide) rfl (fun ls hl => ?_)
  refine mz_aload_n (x := ru2) S.1 S.2.1 dX8_withdraw_6 rfl (lv_at hl 0 rfl) ?_
  refine mz_ifnonnull (tgt := 13) S.1 S.2.1 dX8_withdraw_7 (by decide) (fun a3 e4 => ?_) (fun e4 => ?_)
  · have h := h.2 a3 e4
    refine mz_aload_n (x := ru2) S.1 S.2.1 dX8_withdraw_13 rfl (lv_at hl 0 rfl) ?_
    refine mz_o0 e4 ?_
    obtain ⟨k5, h⟩ := h
    refine mz_geti S hG hM cf_4 fd_132 tw_174 dX8_withdraw_14 k5 ?_
    refine lv_bipush (v := (nI 102)) S.1 S.2.1 dX8_withdraw_17 (by decide) ?_
    refine lv_icmp_eq (tgt := 31) S.1 S.2.1 dX8_withdraw_19 (by decide) (fun c6 => ?_) (fun c6 => ?_)
    · have h := h.1 c6
      exact hB31  μ H locs ls hM hS (lv_sub hl [1] rfl) h
    · have h := h.2 c6
      refine mz_aload_n (x := ru2) S.1 S.2.1 dX8_withdraw_22 rfl (lv_at hl 0 rfl) ?_
      refine mz_o0 e4 ?_
      refine mz_geti S hG hM cf_4 fd_132 tw_174 dX8_withdraw_23 k5 ?_
      refine lv_bipush (v := (nI 100)) S.1 S.2.1 dX8_withdraw_26 (by decide) ?_
      refine lv_icmp_ne (tgt := 34) S.1 S.2.1 dX8_withdraw_28 (by decide) (fun c7 => ?_) (fun c7 => ?_)
      · have h := h.1 c7
        refine lv_aload_n S.1 S.2.1 dX8_withdraw_34 rfl (lv_at hl 1 rfl) ?_
        refine lv_iload_n S.1 S.2.1 dX8_withdraw_35 rfl (lv_at hl 2 rfl) ?_
        refine mz_V S hG hM hS cf_7 k1 (As := [.int x1]) (rest := []) (c_X8_remove h) yf_X8_remove tw_587 tw_589 ts_6 ⟨Nat.le_of_ble_eq_true rfl, Nat.le_of_ble_eq_true rfl⟩ ⟨(Nat.le_of_ble_eq_true rfl), (Nat.le_of_ble_eq_true rfl)⟩ rfl hl.1 rfl (Nat.le_of_ble_eq_true rfl) dX8_withdraw_36 (fun v9 μ8 H locs hp hM hS => ?_)
        obtain ⟨rfl, h⟩ := hp
        refine W.cs (cells' := 0) (slots' := 0) rfl rfl ?_
        refine lv_aload_n S.1 S.2.1 dX8_withdraw_39 rfl (lv_at hl 1 rfl) ?_
        obtain ⟨k9, h⟩ := h
        refine mz_getr S hG hM cf_7 fd_227 tw_196 dX8_withdraw_40 k9 ?_
        refine lv_dup S.1 S.2.1 dX8_withdraw_43 (mz_cat _) ?_
        obtain ⟨a10, e11, h⟩ := h
        refine mz_o0 e11 ?_
        obtain ⟨k12, h⟩ := h
        refine mz_geti S hG hM cf_8 fd_261 tw_78 dX8_withdraw_44 k12 ?_
        refine lv_iconst (v := (nI 1)) S.1 S.2.1 dX8_withdraw_47 (by decide) ?_
        refine lv_iadd S.1 S.2.1 dX8_withdraw_48 ?_
        refine mz_o1 e11 ?_
        refine mz_puti S hG hM hS cf_8 fd_261 tw_78 dX8_withdraw_49 k12 rfl rfl (fun H locs hM hS hz9 => ?_)
        refine lv_aload_n S.1 S.2.1 dX8_withdraw_52 rfl (lv_at hl 1 rfl) ?_
        refine mz_geti S hG hM cf_7 fd_230 tw_202 dX8_withdraw_53 k9 ?_
        exact mz_iret S hr hlk hM hS rfl (Nat.le_of_ble_eq_true rfl) (Nat.le_of_ble_eq_true rfl) dX8_withdraw_56 ⟨_, rfl, h⟩
      · have h := h.2 c7
        exact hB31  μ H locs ls hM hS (lv_sub hl [1] rfl) h
  · have h := h.1 e4
    refine lv_bipush (v := (-4)) S.1 S.2.1 dX8_withdraw_10 (by decide) ?_
    exact mz_iret S hr hlk hM hS rfl (Nat.le_of_ble_eq_true rfl) (Nat.le_of_ble_eq_true rfl) dX8_withdraw_12 ⟨_, rfl, h⟩
set_option maxRecDepth 100000 in
set_option maxHeartbeats 4000000 in
theorem c_X8_turnWind {l : Launch} {G : mgT} {μ : mmT} {o : Nat} {x1 : Int32} {Q : Int32 → mmT → Prop} (h : w_X8_turnWind G μ o x1 Q) : MC G l yX8_turnWind cX8_turnWind 3 (some .int) { frames := 0, cells := 0, slots := 0, locals := 0 } [.ref o, .int x1] μ (pI Q) := by
  refine mz_MC (by decide +kernel) (Nat.le_of_ble_eq_true rfl) (fun p e s m args below meth c S hG hr hlk hnm => ?_)
  have hB10 : ∀ (μ : mmT) (H : Heap) (locs : List Loc) (ls : Array Slot), Mm G μ H → va_S (Ah G) s.heap H locs → lv_has ls 3 [(0, .ref o)] → w_X8_turnWind_b10 G o Q  μ → W p l e { frames := 0, cells := 0, slots := 0, locals := 0 } s m args below meth c H locs (0) (0) (MQ below (mQ G (pI Q)) args s 0 0 (Ah G)) (F0 m 10 ls []) := by
    intro  μ H locs ls hM hS hl h
    unfold w_X8_turnWind_b10 at h
    refine lv_iconst (v := (-1)) S.1 S.2.1 dX8_turnWind_10 (by decide) ?_
    exact mz_iret S hr hlk hM hS rfl (Nat.le_of_ble_eq_true rfl) (Nat.le_of_ble_eq_true rfl) dX8_turnWind_11 ⟨_, rfl, h⟩
  intro H locs ls hM hS hl
  have hl : lv_has ls 3 [(0, .ref o), (1, .int x1)] := hl
  unfold w_X8_turnWind at h
  refine lv_iload_n S.1 S.2.1 dX8_turnWind_0 rfl (lv_at hl 1 rfl) ?_
  refine lv_if_lt (tgt := 10) S.1 S.2.1 dX8_turnWind_1 (by decide) (fun c1 => ?_) (fun c1 => ?_)
  · have h := h.1 c1
    exact hB10  μ H locs ls hM hS (lv_sub hl [0] rfl) h
  · have h := h.2 c1
    refine lv_iload_n S.1 S.2.1 dX8_turnWind_4 rfl (lv_at hl 1 rfl) ?_
    refine lv_bipush (v := (nI 9)) S.1 S.2.1 dX8_turnWind_5 (by decide) ?_
    refine lv_icmp_le (tgt := 12) S.1 S.2.1 dX8_turnWind_7 (by decide) (fun c2 => ?_) (fun c2 => ?_)
    · have h := h.1 c2
      refine lv_aload_n S.1 S.2.1 dX8_turnWind_12 rfl (lv_at hl 0 rfl) ?_
      obtain ⟨k3, h⟩ := h
      refine mz_geti S hG hM cf_7 fd_232 tw_206 dX8_turnWind_13 k3 ?_
      refine lv_istore_n (lv' := [(2, .int (mI μ 232 o)), (0, .ref o), (1, .int x1)]) S.1 S.2.1 dX8_turnWind_16 rfl hl (by decide) rfl (fun ls hl => ?_)
      refine lv_aload_n S.1 S.2.1 dX8_turnWind_17 rfl (lv_at hl 1 rfl) ?_
      refine lv_iload_n S.1 S.2.1 dX8_turnWind_18 rfl (lv_at hl 2 rfl) ?_
      refine mz_puti S hG hM hS cf_7 fd_232 tw_206 dX8_turnWind_19 k3 rfl rfl (fun H locs hM hS hz9 => ?_)
      refine lv_iload_n S.1 S.2.1 dX8_turnWind_22 rfl (lv_at hl 0 rfl) ?_
      exact mz_iret S hr hlk hM hS rfl (Nat.le_of_ble_eq_true rfl) (Nat.le_of_ble_eq_true rfl) dX8_turnWind_23 ⟨_, rfl, h⟩
    · have h := h.2 c2
      exact hB10  μ H locs ls hM hS (lv_sub hl [0] rfl) h
set_option maxRecDepth 100000 in
set_option maxHeartbeats 4000000 in
theorem c_X8_clearKeys {l : Launch} {G : mgT} {μ : mmT} {o : Nat} {x1 : Int32} {Q : Int32 → mmT → Prop} (h : w_X8_clearKeys G μ o x1 Q) : MC G l yX8_clearKeys cX8_clearKeys 4 (some .int) { frames := 1, cells := 0, slots := 0, locals := 21 } [.ref o, .int x1] μ (pI Q) := by
  refine mz_MC (by decide +kernel) (Nat.le_of_ble_eq_true rfl) (fun p e s m args below meth c S hG hr hlk hnm => ?_)
  intro H locs ls hM hS hl
  have hl : lv_has ls 4 [(0, .ref o), (1, .int x1)] := hl
  unfold w_X8_clearKeys at h
  refine lv_aload_n S.1 S.2.1 dX8_clearKeys_0 rfl (lv_at hl 0 rfl) ?_
  refine lv_iload_n S.1 S.2.1 dX8_clearKeys_1 rfl (lv_at hl 1 rfl) ?_
  obtain ⟨k1, h⟩ := h
  refine mz_V S hG hM hS cf_7 k1 (As := [.int x1]) (rest := []) (c_X8_nestAt h) yf_X8_nestAt tw_575 tw_576 tw_577 ⟨Nat.le_of_ble_eq_true rfl, Nat.le_of_ble_eq_true rfl⟩ ⟨(Nat.le_of_ble_eq_true rfl), (Nat.le_of_ble_eq_true rfl)⟩ rfl hl.1 rfl (Nat.le_of_ble_eq_true rfl) dX8_clearKeys_2 (fun v9 μ9 H locs hp hM hS => ?_)
  obtain ⟨ru2, rfl, e9, h⟩ := hp
  rw [e9] at hM
  refine W.cs (cells' := 0) (slots' := 0) rfl rfl ?_
  refine mz_astore_n (x := ru2) (lv' := [(2, va_rf ru2), (0, .ref o), (1, .int x1)]) S.1 S.2.1 dX8_clearKeys_5 rfl hl (by decide) rfl (fun ls hl => ?_)
  refine mz_aload_n (x := ru2) S.1 S.2.1 dX8_clearKeys_6 rfl (lv_at hl 0 rfl) ?_
  refine mz_ifnonnull (tgt := 13) S.1 S.2.1 dX8_clearKeys_7 (by decide) (fun a3 e4 => ?_) (fun e4 => ?_)
  · have h := h.2 a3 e4
    refine mz_aload_n (x := ru2) S.1 S.2.1 dX8_clearKeys_13 rfl (lv_at hl 0 rfl) ?_
    refine mz_o0 e4 ?_
    obtain ⟨k5, h⟩ := h
    refine mz_geti S hG hM cf_5 fd_166 tw_117 dX8_clearKeys_14 k5 ?_
    refine lv_istore_n (i := 3) (lv' := [(3, .int (mI μ 166 a3)), (2, va_rf ru2), (0, .ref o), (1, .int x1)]) S.1 S.2.1 dX8_clearKeys_17 rfl hl (by decide) (by simp [List.filter, mz_cat]) (fun ls hl => ?_)
    refine mz_aload_n (x := ru2) S.1 S.2.1 dX8_clearKeys_18 rfl (lv_at hl 1 rfl) ?_
    refine lv_iconst (v := (nI 0)) S.1 S.2.1 dX8_clearKeys_19 (by decide) ?_
    refine mz_o1 e4 ?_
    refine mz_puti S hG hM hS cf_5 fd_166 tw_117 dX8_clearKeys_20 k5 rfl rfl (fun H locs hM hS hz9 => ?_)
    refine lv_iload_n S.1 S.2.1 dX8_clearKeys_23 rfl (lv_at hl 0 rfl) ?_
    exact mz_iret S hr hlk hM hS rfl (Nat.le_of_ble_eq_true rfl) (Nat.le_of_ble_eq_true rfl) dX8_clearKeys_24 ⟨_, rfl, h⟩
  · have h := h.1 e4
    refine lv_bipush (v := (-3)) S.1 S.2.1 dX8_clearKeys_10 (by decide) ?_
    exact mz_iret S hr hlk hM hS rfl (Nat.le_of_ble_eq_true rfl) (Nat.le_of_ble_eq_true rfl) dX8_clearKeys_12 ⟨_, rfl, h⟩
set_option maxRecDepth 100000 in
set_option maxHeartbeats 4000000 in
theorem c_X8_perform {l : Launch} {G : mgT} {μ : mmT} {o : Nat} {r1 : Option Nat} {Q : Int32 → mmT → Prop} (h : w_X8_perform G μ o r1 Q) : MC G l yX8_perform cX8_perform 2 (some .int) { frames := 6, cells := 0, slots := 0, locals := 172 } [.ref o, va_rf r1] μ (pI Q) := by
  refine mz_MC (by decide +kernel) (by simp [lg_sl, mz_cat, mz_cr, mz_ci, mz_cl, mz_cf, mz_cd, mz_cn]) (fun p e s m args below meth c S hG hr hlk hnm => ?_)
  intro H locs ls hM hS hl
  have hl : lv_has ls 2 [(0, .ref o), (1, va_rf r1)] := by simpa [lv_args, mz_cat, mz_cr, mz_ci, mz_cl, mz_cf, mz_cd, mz_cn] using hl
  unfold w_X8_perform at h
  refine va_gets S.1 S.2.1 (hG.sw.1) hS S.2.2.2.1 (S.2.2.2.2 _ tw_1087) (fun _ q => q) dX8_perform_0 ?_
  refine mz_aload_n (x := r1) S.1 S.2.1 dX8_perform_3 rfl (lv_at hl 1 rfl) ?_
  obtain ⟨a1, e2, h⟩ := h
  refine mz_o0 e2 ?_
  obtain ⟨k3, h⟩ := h
  refine mz_getr S hG hM cf_1 fd_32 tw_263 dX8_perform_4 k3 ?_
  obtain ⟨a4, e5, h⟩ := h
  refine mz_o0 e5 ?_
  obtain ⟨j6, q7, l8, h⟩ := h
  refine mz_U S hG hM hS (mz_recvO (by rw [q7]; exact hG.eno j6 l8) hS) (As := []) (rest := [.ref (gX G 1)]) (c_Jx29ce0_ordinal_8abf5 h) yf_Jx29ce0_ordinal_8abf5 rfl tw_1089 tw_1090 tw_1093 tw_1092 ⟨Nat.le_of_ble_eq_true rfl, Nat.le_of_ble_eq_true rfl⟩ ⟨(Nat.le_of_ble_eq_true rfl), (Nat.le_of_ble_eq_true rfl)⟩ rfl hl.1 rfl (Nat.le_of_ble_eq_true rfl) dX8_perform_7 (fun v9 μ9 H locs hp hM hS => ?_)
  obtain ⟨u9, rfl, e9, h⟩ := hp
  rw [e9] at hM
  refine W.cs (cells' := 0) (slots' := 0) rfl rfl ?_
  obtain ⟨b10, h⟩ := h
  refine va_ti S.1 S.2.1 (hG.sw.2) hS b10 rfl dX8_perform_10 ?_
  by_cases c9 : ∀ k ∈ ([1, 2, 3, 4, 5, 6, 7, 8] : List Nat), ¬ (gSw u9.toNatClampNeg) = nI k
  · have h := h.1 c9
    refine mz_table (tgt := 132) S.1 S.2.1 dX8_perform_11 (by decide) (by rw [mz_dflt [1, 2, 3, 4, 5, 6, 7, 8] 8 (by decide +kernel) (by decide +kernel) (by decide +kernel) (by decide +kernel) c9]; rfl) ?_
    refine lv_aload_n S.1 S.2.1 dX8_perform_132 rfl (lv_at hl 0 rfl) ?_
    refine lv_iconst (v := (nI 1)) S.1 S.2.1 dX8_perform_133 (by decide) ?_
    obtain ⟨k11, h⟩ := h
    refine mz_V S hG hM hS cf_7 k11 (As := [.int (nI 1)]) (rest := []) (c_X8_pass h) yf_X8_pass tw_1102 tw_563 tw_564 ⟨Nat.le_of_ble_eq_true rfl, Nat.le_of_ble_eq_true rfl⟩ ⟨(Nat.le_of_ble_eq_true rfl), (Nat.le_of_ble_eq_true rfl)⟩ rfl hl.1 rfl (Nat.le_of_ble_eq_true rfl) dX8_perform_134 (fun v9 μ13 H locs hp hM hS => ?_)
    obtain ⟨u12, rfl, h⟩ := hp
    refine W.cs (cells' := 0) (slots' := 0) rfl rfl ?_
    exact mz_iret S hr hlk hM hS rfl (Nat.le_of_ble_eq_true rfl) (Nat.le_of_ble_eq_true rfl) dX8_perform_137 ⟨_, rfl, h⟩
  · have h := h.2
    by_cases c10 : (gSw u9.toNatClampNeg) = nI 1
    · have h := h.1 c10
      refine mz_table (tgt := 56) S.1 S.2.1 dX8_perform_11 (by decide) (by rw [c10]; decide +kernel) ?_
      refine lv_aload_n S.1 S.2.1 dX8_perform_56 rfl (lv_at hl 0 rfl) ?_
      refine mz_aload_n (x := r1) S.1 S.2.1 dX8_perform_57 rfl (lv_at hl 1 rfl) ?_
      refine mz_o0 e2 ?_
      refine mz_geti S hG hM cf_1 fd_33 tw_266 dX8_perform_58 k3 ?_
      refine mz_aload_n (x := r1) S.1 S.2.1 dX8_perform_61 rfl (lv_at hl 1 rfl) ?_
      refine mz_o0 e2 ?_
      refine mz_geti S hG hM cf_1 fd_34 tw_269 dX8_perform_62 k3 ?_
      obtain ⟨k14, h⟩ := h
      refine mz_V S hG hM hS cf_7 k14 (As := [.int (mI μ 33 a1), .int (mI μ 34 a1)]) (rest := []) (c_X8_openNest h) yf_X8_openNest tw_1095 tw_640 tw_641 ⟨Nat.le_of_ble_eq_true rfl, Nat.le_of_ble_eq_true rfl⟩ ⟨(Nat.le_of_ble_eq_true rfl), (Nat.le_of_ble_eq_true rfl)⟩ rfl hl.1 rfl (Nat.le_of_ble_eq_true rfl) dX8_perform_65 (fun v9 μ16 H locs hp hM hS => ?_)
      obtain ⟨u15, rfl, h⟩ := hp
      refine W.cs (cells' := 0) (slots' := 0) rfl rfl ?_
      exact mz_iret S hr hlk hM hS rfl (Nat.le_of_ble_eq_true rfl) (Nat.le_of_ble_eq_true rfl) dX8_perform_68 ⟨_, rfl, h⟩
    have h := h.2
    by_cases c11 : (gSw u9.toNatClampNeg) = nI 2
    · have h := h.1 c11
      refine mz_table (tgt := 69) S.1 S.2.1 dX8_perform_11 (by decide) (by rw [c11]; decide +kernel) ?_
      refine lv_aload_n S.1 S.2.1 dX8_perform_69 rfl (lv_at hl 0 rfl) ?_
      obtain ⟨k17, h⟩ := h
      refine mz_V S hG hM hS cf_7 k17 (As := []) (rest := []) (c_X8_hireCrow h) yf_X8_hireCrow tw_1096 tw_697 tw_698 ⟨Nat.le_of_ble_eq_true rfl, Nat.le_of_ble_eq_true rfl⟩ ⟨(Nat.le_of_ble_eq_true rfl), (Nat.le_of_ble_eq_true rfl)⟩ rfl hl.1 rfl (Nat.le_of_ble_eq_true rfl) dX8_perform_70 (fun v9 μ19 H locs hp hM hS => ?_)
      obtain ⟨u18, rfl, h⟩ := hp
      refine W.cs (cells' := 0) (slots' := 0) rfl rfl ?_
      exact mz_iret S hr hlk hM hS rfl (Nat.le_of_ble_eq_true rfl) (Nat.le_of_ble_eq_true rfl) dX8_perform_73 ⟨_, rfl, h⟩
    have h := h.2
    by_cases c12 : (gSw u9.toNatClampNeg) = nI 3
    · have h := h.1 c12
      refine mz_table (tgt := 74) S.1 S.2.1 dX8_perform_11 (by decide) (by rw [c12]; decide +kernel) ?_
      refine lv_aload_n S.1 S.2.1 dX8_perform_74 rfl (lv_at hl 0 rfl) ?_
      refine mz_aload_n (x := r1) S.1 S.2.1 dX8_perform_75 rfl (lv_at hl 1 rfl) ?_
      refine mz_o0 e2 ?_
      refine mz_geti S hG hM cf_1 fd_33 tw_266 dX8_perform_76 k3 ?_
      refine mz_aload_n (x := r1) S.1 S.2.1 dX8_perform_79 rfl (lv_at hl 1 rfl) ?_
      refine mz_o0 e2 ?_
      refine mz_geti S hG hM cf_1 fd_34 tw_269 dX8_perform_80 k3 ?_
      obtain ⟨k20, h⟩ := h
      refine mz_V S hG hM hS cf_7 k20 (As := [.int (mI μ 33 a1), .int (mI μ 34 a1)]) (rest := []) (c_X8_post h) yf_X8_post tw_1097 tw_740 tw_741 ⟨Nat.le_of_ble_eq_true rfl, Nat.le_of_ble_eq_true rfl⟩ ⟨(Nat.le_of_ble_eq_true rfl), (Nat.le_of_ble_eq_true rfl)⟩ rfl hl.1 rfl (Nat.le_of_ble_eq_true rfl) dX8_perform_83 (fun v9 μ22 H locs hp hM hS => ?_)
      obtain ⟨u21, rfl, h⟩ := hp
      refine W.cs (cells' := 0) (slots' := 0) rfl rfl ?_
      exact mz_iret S hr hlk hM hS rfl (Nat.le_of_ble_eq_true rfl) (Nat.le_of_ble_eq_true rfl) dX8_perform_86 ⟨_, rfl, h⟩
    have h := h.2
    by_cases c13 : (gSw u9.toNatClampNeg) = nI 4
    · have h := h.1 c13
      refine mz_table (tgt := 87) S.1 S.2.1 dX8_perform_11 (by decide) (by rw [c13]; decide +kernel) ?_
      refine lv_aload_n S.1 S.2.1 dX8_perform_87 rfl (lv_at hl 0 rfl) ?_
      refine mz_aload_n (x := r1) S.1 S.2.1 dX8_perform_88 rfl (lv_at hl 1 rfl) ?_
      refine mz_o0 e2 ?_
      refine mz_geti S hG hM cf_1 fd_33 tw_266 dX8_perform_89 k3 ?_
      obtain ⟨k23, h⟩ := h
      refine mz_V S hG hM hS cf_7 k23 (As := [.int (mI μ 33 a1)]) (rest := []) (c_X8_handOver h) yf_X8_handOver tw_1098 tw_755 tw_756 ⟨Nat.le_of_ble_eq_true rfl, Nat.le_of_ble_eq_true rfl⟩ ⟨(Nat.le_of_ble_eq_true rfl), (Nat.le_of_ble_eq_true rfl)⟩ rfl hl.1 rfl (Nat.le_of_ble_eq_true rfl) dX8_perform_92 (fun v9 μ25 H locs hp hM hS => ?_)
      obtain ⟨u24, rfl, h⟩ := hp
      refine W.cs (cells' := 0) (slots' := 0) rfl rfl ?_
      exact mz_iret S hr hlk hM hS rfl (Nat.le_of_ble_eq_true rfl) (Nat.le_of_ble_eq_true rfl) dX8_perform_95 ⟨_, rfl, h⟩
    have h := h.2
    by_cases c14 : (gSw u9.toNatClampNeg) = nI 5
    · have h := h.1 c14
      refine mz_table (tgt := 96) S.1 S.2.1 dX8_perform_11 (by decide) (by rw [c14]; decide +kernel) ?_
      refine lv_aload_n S.1 S.2.1 dX8_perform_96 rfl (lv_at hl 0 rfl) ?_
      refine mz_aload_n (x := r1) S.1 S.2.1 dX8_perform_97 rfl (lv_at hl 1 rfl) ?_
      refine mz_o0 e2 ?_
      refine mz_geti S hG hM cf_1 fd_33 tw_266 dX8_perform_98 k3 ?_
      obtain ⟨k26, h⟩ := h
      refine mz_V S hG hM hS cf_7 k26 (As := [.int (mI μ 33 a1)]) (rest := []) (c_X8_withdraw h) yf_X8_withdraw tw_1099 tw_781 tw_782 ⟨Nat.le_of_ble_eq_true rfl, Nat.le_of_ble_eq_true rfl⟩ ⟨(Nat.le_of_ble_eq_true rfl), (Nat.le_of_ble_eq_true rfl)⟩ rfl hl.1 rfl (Nat.le_of_ble_eq_true rfl) dX8_perform_101 (fun v9 μ28 H locs hp hM hS => ?_)
      obtain ⟨u27, rfl, h⟩ := hp
      refine W.cs (cells' := 0) (slots' := 0) rfl rfl ?_
      exact mz_iret S hr hlk hM hS rfl (Nat.le_of_ble_eq_true rfl) (Nat.le_of_ble_eq_true rfl) dX8_perform_104 ⟨_, rfl, h⟩
    have h := h.2
    by_cases c15 : (gSw u9.toNatClampNeg) = nI 6
    · have h := h.1 c15
      refine mz_table (tgt := 105) S.1 S.2.1 dX8_perform_11 (by decide) (by rw [c15]; decide +kernel) ?_
      refine lv_aload_n S.1 S.2.1 dX8_perform_105 rfl (lv_at hl 0 rfl) ?_
      refine mz_aload_n (x := r1) S.1 S.2.1 dX8_perform_106 rfl (lv_at hl 1 rfl) ?_
      refine mz_o0 e2 ?_
      refine mz_geti S hG hM cf_1 fd_33 tw_266 dX8_perform_107 k3 ?_
      obtain ⟨k29, h⟩ := h
      refine mz_V S hG hM hS cf_7 k29 (As := [.int (mI μ 33 a1)]) (rest := []) (c_X8_turnWind h) yf_X8_turnWind tw_1100 tw_708 tw_709 ⟨Nat.le_of_ble_eq_true rfl, Nat.le_of_ble_eq_true rfl⟩ ⟨(Nat.le_of_ble_eq_true rfl), (Nat.le_of_ble_eq_true rfl)⟩ rfl hl.1 rfl (Nat.le_of_ble_eq_true rfl) dX8_perform_110 (fun v9 μ31 H locs hp hM hS => ?_)
      obtain ⟨u30, rfl, h⟩ := hp
      refine W.cs (cells' := 0) (slots' := 0) rfl rfl ?_
      exact mz_iret S hr hlk hM hS rfl (Nat.le_of_ble_eq_true rfl) (Nat.le_of_ble_eq_true rfl) dX8_perform_113 ⟨_, rfl, h⟩
    have h := h.2
    by_cases c16 : (gSw u9.toNatClampNeg) = nI 7
    · have h := h.1 c16
      refine mz_table (tgt := 114) S.1 S.2.1 dX8_perform_11 (by decide) (by rw [c16]; decide +kernel) ?_
      refine lv_aload_n S.1 S.2.1 dX8_perform_114 rfl (lv_at hl 0 rfl) ?_
      refine mz_aload_n (x := r1) S.1 S.2.1 dX8_perform_115 rfl (lv_at hl 1 rfl) ?_
      refine mz_o0 e2 ?_
      refine mz_geti S hG hM cf_1 fd_33 tw_266 dX8_perform_116 k3 ?_
      obtain ⟨k32, h⟩ := h
      refine mz_V S hG hM hS cf_7 k32 (As := [.int (mI μ 33 a1)]) (rest := []) (c_X8_clearKeys h) yf_X8_clearKeys tw_1101 tw_770 tw_771 ⟨Nat.le_of_ble_eq_true rfl, Nat.le_of_ble_eq_true rfl⟩ ⟨(Nat.le_of_ble_eq_true rfl), (Nat.le_of_ble_eq_true rfl)⟩ rfl hl.1 rfl (Nat.le_of_ble_eq_true rfl) dX8_perform_119 (fun v9 μ34 H locs hp hM hS => ?_)
      obtain ⟨u33, rfl, h⟩ := hp
      refine W.cs (cells' := 0) (slots' := 0) rfl rfl ?_
      exact mz_iret S hr hlk hM hS rfl (Nat.le_of_ble_eq_true rfl) (Nat.le_of_ble_eq_true rfl) dX8_perform_122 ⟨_, rfl, h⟩
    have h := h.2
    by_cases c17 : (gSw u9.toNatClampNeg) = nI 8
    · have h := h c17
      refine mz_table (tgt := 123) S.1 S.2.1 dX8_perform_11 (by decide) (by rw [c17]; decide +kernel) ?_
      refine lv_aload_n S.1 S.2.1 dX8_perform_123 rfl (lv_at hl 0 rfl) ?_
      refine mz_aload_n (x := r1) S.1 S.2.1 dX8_perform_124 rfl (lv_at hl 1 rfl) ?_
      refine mz_o0 e2 ?_
      refine mz_geti S hG hM cf_1 fd_33 tw_266 dX8_perform_125 k3 ?_
      obtain ⟨k35, h⟩ := h
      refine mz_V S hG hM hS cf_7 k35 (As := [.int (mI μ 33 a1)]) (rest := []) (c_X8_pass h) yf_X8_pass tw_1102 tw_563 tw_564 ⟨Nat.le_of_ble_eq_true rfl, Nat.le_of_ble_eq_true rfl⟩ ⟨(Nat.le_of_ble_eq_true rfl), (Nat.le_of_ble_eq_true rfl)⟩ rfl hl.1 rfl (Nat.le_of_ble_eq_true rfl) dX8_perform_128 (fun v9 μ37 H locs hp hM hS => ?_)
      obtain ⟨u36, rfl, h⟩ := hp
      refine W.cs (cells' := 0) (slots' := 0) rfl rfl ?_
      exact mz_iret S hr hlk hM hS rfl (Nat.le_of_ble_eq_true rfl) (Nat.le_of_ble_eq_true rfl) dX8_perform_131 ⟨_, rfl, h⟩
    exact absurd (by simp [c10, c11, c12, c13, c14, c15, c16, c17]) c9
set_option maxRecDepth 100000 in
set_option maxHeartbeats 4000000 in
theorem c_X8_crowAt {l : Launch} {G : mgT} {μ : mmT} {o : Nat} {x1 : Int32} {Q : Option Nat → Prop} (h : w_X8_crowAt G μ o x1 Q) : MC G l yX8_crowAt cX8_crowAt 2 (some (.object "CrowMail$Crow")) { frames := 0, cells := 0, slots := 0, locals := 0 } [.ref o, .int x1] μ (pR (fun r μ' => μ' = μ ∧ Q r)) := by
  refine mz_MC (by decide +kernel) (Nat.le_of_ble_eq_true rfl) (fun p e s m args below meth c S hG hr hlk hnm => ?_)
  have hB22 : ∀ (s0 : Option Nat) (H : Heap) (locs : List Loc) (ls : Array Slot), Mm G μ H → va_S (Ah G) s.heap H locs → lv_has ls 2 [(0, .ref o)] → w_X8_crowAt_b22 G μ o Q  s0 → W p l e { frames := 0, cells := 0, slots := 0, locals := 0 } s m args below meth c H locs (0) (0) (MQ below (mQ G (pR (fun r μ' => μ' = μ ∧ Q r))) args s 0 0 (Ah G)) (F0 m 22 ls [va_rf s0]) := by
    intro  s0 H locs ls hM hS hl h
    unfold w_X8_crowAt_b22 at h
    exact mz_aret (x := s0) S hr (by first | exact Or.inl ⟨_, rfl⟩ | exact Or.inr ⟨_, rfl⟩) hlk hM hS (Nat.le_of_ble_eq_true rfl) (Nat.le_of_ble_eq_true rfl) dX8_crowAt_22 ⟨_, rfl, rfl, h⟩
  have hB12 : ∀  (H : Heap) (locs : List Loc) (ls : Array Slot), Mm G μ H → va_S (Ah G) s.heap H locs → lv_has ls 2 [(0, .ref o)] → w_X8_crowAt_b12 G μ o Q   → W p l e { frames := 0, cells := 0, slots := 0, locals := 0 } s m args below meth c H locs (0) (0) (MQ below (mQ G (pR (fun r μ' => μ' = μ ∧ Q r))) args s 0 0 (Ah G)) (F0 m 12 ls []) := by
    intro   H locs ls hM hS hl h
    unfold w_X8_crowAt_b12 at h
    refine lv_null S.1 S.2.1 dX8_crowAt_12 ?_
    refine lv_goto (tgt := 22) S.1 S.2.1 dX8_crowAt_13 (by decide) ?_
    exact hB22  none H locs ls hM hS (lv_sub hl [0] rfl) h
  intro H locs ls hM hS hl
  have hl : lv_has ls 2 [(0, .ref o), (1, .int x1)] := hl
  unfold w_X8_crowAt at h
  refine lv_iload_n S.1 S.2.1 dX8_crowAt_0 rfl (lv_at hl 1 rfl) ?_
  refine lv_if_lt (tgt := 12) S.1 S.2.1 dX8_crowAt_1 (by decide) (fun c1 => ?_) (fun c1 => ?_)
  · have h := h.1 c1
    exact hB12   H locs ls hM hS (lv_sub hl [0] rfl) h
  · have h := h.2 c1
    refine lv_iload_n S.1 S.2.1 dX8_crowAt_4 rfl (lv_at hl 1 rfl) ?_
    refine lv_aload_n S.1 S.2.1 dX8_crowAt_5 rfl (lv_at hl 0 rfl) ?_
    obtain ⟨k2, h⟩ := h
    refine mz_geti S hG hM cf_7 fd_229 tw_200 dX8_crowAt_6 k2 ?_
    refine lv_icmp_lt (tgt := 16) S.1 S.2.1 dX8_crowAt_9 (by decide) (fun c3 => ?_) (fun c3 => ?_)
    · have h := h.1 c3
      refine lv_aload_n S.1 S.2.1 dX8_crowAt_16 rfl (lv_at hl 0 rfl) ?_
      refine mz_getr S hG hM cf_7 fd_225 tw_193 dX8_crowAt_17 k2 ?_
      refine lv_iload_n S.1 S.2.1 dX8_crowAt_20 rfl (lv_at hl 1 rfl) ?_
      obtain ⟨a4, e5, h⟩ := h
      refine mz_o1 e5 ?_
      obtain ⟨k6, h⟩ := h
      obtain ⟨b7, h⟩ := h
      refine mz_aald (j := 6) S hG hM dX8_crowAt_21 (by decide) rfl k6 b7 ?_
      exact hB22  (mB μ a4 x1.toNatClampNeg) H locs ls hM hS (lv_sub hl [0] rfl) h
    · have h := h.2 c3
      exact hB12   H locs ls hM hS (lv_sub hl [0] rfl) h
set_option maxRecDepth 100000 in
set_option maxHeartbeats 4000000 in
theorem c_X8_ranksBefore {l : Launch} {G : mgT} {μ : mmT} {o : Nat} {x1 : Int32} {x2 : Int32} {Q : Int32 → Prop} (h : w_X8_ranksBefore G μ o x1 x2 Q) : MC G l yX8_ranksBefore cX8_ranksBefore 3 (some .boolean) { frames := 0, cells := 0, slots := 0, locals := 0 } [.ref o, .int x1, .int x2] μ (pI (fun r μ' => μ' = μ ∧ Q r)) := by
  refine mz_MC (by decide +kernel) (Nat.le_of_ble_eq_true rfl) (fun p e s m args below meth c S hG hr hlk hnm => ?_)
  have hB106 : ∀ (s0 : Int32) (H : Heap) (locs : List Loc) (ls : Array Slot), Mm G μ H → va_S (Ah G) s.heap H locs → lv_has ls 3 [(0, .ref o)] → w_X8_ranksBefore_b106 G μ o Q  s0 → W p l e { frames := 0, cells := 0, slots := 0, locals := 0 } s m args below meth c H locs (0) (0) (MQ below (mQ G (pI (fun r μ' => μ' = μ ∧ Q r))) args s 0 0 (Ah G)) (F0 m 106 ls [.int s0]) := by
    intro  s0 H locs ls hM hS hl h
    unfold w_X8_ranksBefore_b106 at h
    obtain ⟨f18, h⟩ := h
    exact mz_iret S hr hlk hM hS (mz_nZ f18) (Nat.le_of_ble_eq_true rfl) (Nat.le_of_ble_eq_true rfl) dX8_ranksBefore_106 ⟨_, rfl, rfl, h⟩
  have hB95 : ∀ (s0 : Int32) (H : Heap) (locs : List Loc) (ls : Array Slot), Mm G μ H → va_S (Ah G) s.heap H locs → lv_has ls 3 [(0, .ref o)] → w_X8_ranksBefore_b95 G μ o Q  s0 → W p l e { frames := 0, cells := 0, slots := 0, locals := 0 } s m args below meth c H locs (0) (0) (MQ below (mQ G (pI (fun r μ' => μ' = μ ∧ Q r))) args s 0 0 (Ah G)) (F0 m 95 ls [.int s0]) := by
    intro  s0 H locs ls hM hS hl h
    unfold w_X8_ranksBefore_b95 at h
    obtain ⟨f22, h⟩ := h
    exact mz_iret S hr hlk hM hS (mz_nZ f22) (Nat.le_of_ble_eq_true rfl) (Nat.le_of_ble_eq_true rfl) dX8_ranksBefore_95 ⟨_, rfl, rfl, h⟩
  have hB47 : ∀ (s0 : Int32) (H : Heap) (locs : List Loc) (ls : Array Slot), Mm G μ H → va_S (Ah G) s.heap H locs → lv_has ls 3 [(0, .ref o)] → w_X8_ranksBefore_b47 G μ o Q  s0 → W p l e { frames := 0, cells := 0, slots := 0, locals := 0 } s m args below meth c H locs (0) (0) (MQ below (mQ G (pI (fun r μ' => μ' = μ ∧ Q r))) args s 0 0 (Ah G)) (F0 m 47 ls [.int s0]) := by
    intro  s0 H locs ls hM hS hl h
    unfold w_X8_ranksBefore_b47 at h
    obtain ⟨f26, h⟩ := h
    exact mz_iret S hr hlk hM hS (mz_nZ f26) (Nat.le_of_ble_eq_true rfl) (Nat.le_of_ble_eq_true rfl) dX8_ranksBefore_47 ⟨_, rfl, rfl, h⟩
  intro H locs ls hM hS hl
  have hl : lv_has ls 3 [(0, .ref o), (1, .int x1), (2, .int x2)] := hl
  unfold w_X8_ranksBefore at h
  refine lv_aload_n S.1 S.2.1 dX8_ranksBefore_0 rfl (lv_at hl 0 rfl) ?_
  obtain ⟨k1, h⟩ := h
  refine mz_getr S hG hM cf_7 fd_224 tw_192 dX8_ranksBefore_1 k1 ?_
  refine lv_iload_n S.1 S.2.1 dX8_ranksBefore_4 rfl (lv_at hl 1 rfl) ?_
  obtain ⟨a2, e3, h⟩ := h
  refine mz_o1 e3 ?_
  obtain ⟨k4, h⟩ := h
  obtain ⟨b5, h⟩ := h
  refine mz_aald (j := 8) S hG hM dX8_ranksBefore_5 (by decide) rfl k4 b5 ?_
  obtain ⟨a6, e7, h⟩ := h
  refine mz_o0 e7 ?_
  obtain ⟨k8, h⟩ := h
  refine mz_geti S hG hM cf_5 fd_164 tw_112 dX8_ranksBefore_6 k8 ?_
  refine lv_aload_n S.1 S.2.1 dX8_ranksBefore_9 rfl (lv_at hl 0 rfl) ?_
  refine mz_getr S hG hM cf_7 fd_224 tw_192 dX8_ranksBefore_10 k1 ?_
  refine lv_iload_n S.1 S.2.1 dX8_ranksBefore_13 rfl (lv_at hl 2 rfl) ?_
  refine mz_o1 e3 ?_
  obtain ⟨b9, h⟩ := h
  refine mz_aald (j := 8) S hG hM dX8_ranksBefore_14 (by decide) rfl k4 b9 ?_
  obtain ⟨a10, e11, h⟩ := h
  refine mz_o0 e11 ?_
  obtain ⟨k12, h⟩ := h
  refine mz_geti S hG hM cf_5 fd_164 tw_112 dX8_ranksBefore_15 k12 ?_
  refine lv_icmp_eq (tgt := 48) S.1 S.2.1 dX8_ranksBefore_18 (by decide) (fun c13 => ?_) (fun c13 => ?_)
  · have h := h.1 c13
    refine lv_aload_n S.1 S.2.1 dX8_ranksBefore_48 rfl (lv_at hl 0 rfl) ?_
    refine mz_getr S hG hM cf_7 fd_224 tw_192 dX8_ranksBefore_49 k1 ?_
    refine lv_iload_n S.1 S.2.1 dX8_ranksBefore_52 rfl (lv_at hl 1 rfl) ?_
    refine mz_o1 e3 ?_
    obtain ⟨b14, h⟩ := h
    refine mz_aald (j := 8) S hG hM dX8_ranksBefore_53 (by decide) rfl k4 b14 ?_
    refine mz_o0 e7 ?_
    refine mz_geti S hG hM cf_5 fd_162 tw_107 dX8_ranksBefore_54 k8 ?_
    refine lv_aload_n S.1 S.2.1 dX8_ranksBefore_57 rfl (lv_at hl 0 rfl) ?_
    refine mz_getr S hG hM cf_7 fd_224 tw_192 dX8_ranksBefore_58 k1 ?_
    refine lv_iload_n S.1 S.2.1 dX8_ranksBefore_61 rfl (lv_at hl 2 rfl) ?_
    refine mz_o1 e3 ?_
    obtain ⟨b15, h⟩ := h
    refine mz_aald (j := 8) S hG hM dX8_ranksBefore_62 (by decide) rfl k4 b15 ?_
    refine mz_o0 e11 ?_
    refine mz_geti S hG hM cf_5 fd_162 tw_107 dX8_ranksBefore_63 k12 ?_
    refine lv_icmp_eq (tgt := 96) S.1 S.2.1 dX8_ranksBefore_66 (by decide) (fun c16 => ?_) (fun c16 => ?_)
    · have h := h.1 c16
      refine lv_iload_n S.1 S.2.1 dX8_ranksBefore_96 rfl (lv_at hl 1 rfl) ?_
      refine lv_iload_n S.1 S.2.1 dX8_ranksBefore_97 rfl (lv_at hl 2 rfl) ?_
      refine lv_icmp_ge (tgt := 105) S.1 S.2.1 dX8_ranksBefore_98 (by decide) (fun c17 => ?_) (fun c17 => ?_)
      · have h := h.1 c17
        refine lv_iconst (v := (nI 0)) S.1 S.2.1 dX8_ranksBefore_105 (by decide) ?_
        exact hB106  (nI 0) H locs ls hM hS (lv_sub hl [0] rfl) h
      · have h := h.2 c17
        refine lv_iconst (v := (nI 1)) S.1 S.2.1 dX8_ranksBefore_101 (by decide) ?_
        refine lv_goto (tgt := 106) S.1 S.2.1 dX8_ranksBefore_102 (by decide) ?_
        exact hB106  (nI 1) H locs ls hM hS (lv_sub hl [0] rfl) h
    · have h := h.2 c16
      refine lv_aload_n S.1 S.2.1 dX8_ranksBefore_69 rfl (lv_at hl 0 rfl) ?_
      refine mz_getr S hG hM cf_7 fd_224 tw_192 dX8_ranksBefore_70 k1 ?_
      refine lv_iload_n S.1 S.2.1 dX8_ranksBefore_73 rfl (lv_at hl 1 rfl) ?_
      refine mz_o1 e3 ?_
      obtain ⟨b19, h⟩ := h
      refine mz_aald (j := 8) S hG hM dX8_ranksBefore_74 (by decide) rfl k4 b19 ?_
      refine mz_o0 e7 ?_
      refine mz_geti S hG hM cf_5 fd_162 tw_107 dX8_ranksBefore_75 k8 ?_
      refine lv_aload_n S.1 S.2.1 dX8_ranksBefore_78 rfl (lv_at hl 0 rfl) ?_
      refine mz_getr S hG hM cf_7 fd_224 tw_192 dX8_ranksBefore_79 k1 ?_
      refine lv_iload_n S.1 S.2.1 dX8_ranksBefore_82 rfl (lv_at hl 2 rfl) ?_
      refine mz_o1 e3 ?_
      obtain ⟨b20, h⟩ := h
      refine mz_aald (j := 8) S hG hM dX8_ranksBefore_83 (by decide) rfl k4 b20 ?_
      refine mz_o0 e11 ?_
      refine mz_geti S hG hM cf_5 fd_162 tw_107 dX8_ranksBefore_84 k12 ?_
      refine lv_icmp_ge (tgt := 94) S.1 S.2.1 dX8_ranksBefore_87 (by decide) (fun c21 => ?_) (fun c21 => ?_)
      · have h := h.1 c21
        refine lv_iconst (v := (nI 0)) S.1 S.2.1 dX8_ranksBefore_94 (by decide) ?_
        exact hB95  (nI 0) H locs ls hM hS (lv_sub hl [0] rfl) h
      · have h := h.2 c21
        refine lv_iconst (v := (nI 1)) S.1 S.2.1 dX8_ranksBefore_90 (by decide) ?_
        refine lv_goto (tgt := 95) S.1 S.2.1 dX8_ranksBefore_91 (by decide) ?_
        exact hB95  (nI 1) H locs ls hM hS (lv_sub hl [0] rfl) h
  · have h := h.2 c13
    refine lv_aload_n S.1 S.2.1 dX8_ranksBefore_21 rfl (lv_at hl 0 rfl) ?_
    refine mz_getr S hG hM cf_7 fd_224 tw_192 dX8_ranksBefore_22 k1 ?_
    refine lv_iload_n S.1 S.2.1 dX8_ranksBefore_25 rfl (lv_at hl 1 rfl) ?_
    refine mz_o1 e3 ?_
    obtain ⟨b23, h⟩ := h
    refine mz_aald (j := 8) S hG hM dX8_ranksBefore_26 (by decide) rfl k4 b23 ?_
    refine mz_o0 e7 ?_
    refine mz_geti S hG hM cf_5 fd_164 tw_112 dX8_ranksBefore_27 k8 ?_
    refine lv_aload_n S.1 S.2.1 dX8_ranksBefore_30 rfl (lv_at hl 0 rfl) ?_
    refine mz_getr S hG hM cf_7 fd_224 tw_192 dX8_ranksBefore_31 k1 ?_
    refine lv_iload_n S.1 S.2.1 dX8_ranksBefore_34 rfl (lv_at hl 2 rfl) ?_
    refine mz_o1 e3 ?_
    obtain ⟨b24, h⟩ := h
    refine mz_aald (j := 8) S hG hM dX8_ranksBefore_35 (by decide) rfl k4 b24 ?_
    refine mz_o0 e11 ?_
    refine mz_geti S hG hM cf_5 fd_164 tw_112 dX8_ranksBefore_36 k12 ?_
    refine lv_icmp_le (tgt := 46) S.1 S.2.1 dX8_ranksBefore_39 (by decide) (fun c25 => ?_) (fun c25 => ?_)
    · have h := h.1 c25
      refine lv_iconst (v := (nI 0)) S.1 S.2.1 dX8_ranksBefore_46 (by decide) ?_
      exact hB47  (nI 0) H locs ls hM hS (lv_sub hl [0] rfl) h
    · have h := h.2 c25
      refine lv_iconst (v := (nI 1)) S.1 S.2.1 dX8_ranksBefore_42 (by decide) ?_
      refine lv_goto (tgt := 47) S.1 S.2.1 dX8_ranksBefore_43 (by decide) ?_
      exact hB47  (nI 1) H locs ls hM hS (lv_sub hl [0] rfl) h
set_option maxRecDepth 100000 in
set_option maxHeartbeats 4000000 in
theorem c_X8_nestAtRank {l : Launch} {G : mgT} {μ : mmT} {o : Nat} {x1 : Int32} {Q : Int32 → Prop} (h : w_X8_nestAtRank G μ o x1 Q) : MC G l yX8_nestAtRank cX8_nestAtRank 5 (some .int) { frames := 1, cells := 0, slots := 0, locals := 22 } [.ref o, .int x1] μ (pI (fun r μ' => μ' = μ ∧ Q r)) := by
  refine mz_MC (by decide +kernel) (Nat.le_of_ble_eq_true rfl) (fun p e s m args below meth c S hG hr hlk hnm => ?_)
  have hB37 : ∀ (K2 : Int32 → Int32 → Prop) (kK2 : ∀ (x1 : Int32) (x2 : Int32) (H : Heap) (locs : List Loc) (ls : Array Slot), Mm G μ H → va_S (Ah G) s.heap H locs → lv_has ls 5 [(0, .ref o), (1, .int x1), (2, .int x2)] → K2 x1 x2 → W p l e { frames := 1, cells := 0, slots := 0, locals := 22 } s m args below meth c H locs (0) (0) (MQ below (mQ G (pI (fun r μ' => μ' = μ ∧ Q r))) args s 0 0 (Ah G)) (F0 m 2 ls [])) (K15 : Int32 → Int32 → Int32 → Int32 → Prop) (kK15 : ∀ (x1 : Int32) (x2 : Int32) (x3 : Int32) (x4 : Int32) (H : Heap) (locs : List Loc) (ls : Array Slot), Mm G μ H → va_S (Ah G) s.heap H locs → lv_has ls 5 [(0, .ref o), (1, .int x1), (2, .int x2), (3, .int x3), (4, .int x4)] → K15 x1 x2 x3 x4 → W p l e { frames := 1, cells := 0, slots := 0, locals := 22 } s m args below meth c H locs (0) (0) (MQ below (mQ G (pI (fun r μ' => μ' = μ ∧ Q r))) args s 0 0 (Ah G)) (F0 m 15 ls [])) (x1 : Int32) (x2 : Int32) (x3 : Int32) (x4 : Int32) (H : Heap) (locs : List Loc) (ls : Array Slot), Mm G μ H → va_S (Ah G) s.heap H locs → lv_has ls 5 [(0, .ref o), (1, .int x1), (2, .int x2), (3, .int x3), (4, .int x4)] → w_X8_nestAtRank_b37 G μ o Q K2 K15 x1 x2 x3 x4 → W p l e { frames := 1, cells := 0, slots := 0, locals := 22 } s m args below meth c H locs (0) (0) (MQ below (mQ G (pI (fun r μ' => μ' = μ ∧ Q r))) args s 0 0 (Ah G)) (F0 m 37 ls []) := by
    intro K2 kK2 K15 kK15 x1 x2 x3 x4 H locs ls hM hS hl h
    unfold w_X8_nestAtRank_b37 at h
    refine lv_iinc (v := (x4 + nI 1)) (lv' := [(4, .int (x4 + nI 1)), (0, .ref o), (1, .int x1), (2, .int x2), (3, .int x3)]) S.1 S.2.1 dX8_nestAtRank_37 hl (k := 4) rfl rfl (by decide) rfl (fun ls hl => ?_)
    refine lv_goto (tgt := 15) S.1 S.2.1 dX8_nestAtRank_40 (by decide) ?_
    exact kK15 x1 x2 x3 (x4 + nI 1) H locs ls hM hS (lv_sub hl [1, 2, 3, 4, 0] rfl) h
  have hB15 : ∀ (K2 : Int32 → Int32 → Prop) (kK2 : ∀ (x1 : Int32) (x2 : Int32) (H : Heap) (locs : List Loc) (ls : Array Slot), Mm G μ H → va_S (Ah G) s.heap H locs → lv_has ls 5 [(0, .ref o), (1, .int x1), (2, .int x2)] → K2 x1 x2 → W p l e { frames := 1, cells := 0, slots := 0, locals := 22 } s m args below meth c H locs (0) (0) (MQ below (mQ G (pI (fun r μ' => μ' = μ ∧ Q r))) args s 0 0 (Ah G)) (F0 m 2 ls [])) (n : Nat) (x1 : Int32) (x2 : Int32) (x3 : Int32) (x4 : Int32) (H : Heap) (locs : List Loc) (ls : Array Slot), Mm G μ H → va_S (Ah G) s.heap H locs → lv_has ls 5 [(0, .ref o), (1, .int x1), (2, .int x2), (3, .int x3), (4, .int x4)] → w_X8_nestAtRank_l15 G μ o Q K2 n x1 x2 x3 x4 → W p l e { frames := 1, cells := 0, slots := 0, locals := 22 } s m args below meth c H locs (0) (0) (MQ below (mQ G (pI (fun r μ' => μ' = μ ∧ Q r))) args s 0 0 (Ah G)) (F0 m 15 ls []) := by
    intro K2 kK2 n
    induction n with
    | zero =>
      intro x1 x2 x3 x4 H locs ls hM hS hl h
      exact False.elim h
    | succ n ih =>
      intro x1 x2 x3 x4 H locs ls hM hS hl h
      have h : w_X8_nestAtRank_b15 G μ o Q K2 (w_X8_nestAtRank_l15 G μ o Q K2 n) x1 x2 x3 x4 := h
      unfold w_X8_nestAtRank_b15 at h
      refine lv_iload S.1 S.2.1 dX8_nestAtRank_15 (lv_at hl 4 rfl) ?_
      refine lv_aload_n S.1 S.2.1 dX8_nestAtRank_17 rfl (lv_at hl 0 rfl) ?_
      obtain ⟨k3, h⟩ := h
      refine mz_geti S hG hM cf_7 fd_228 tw_198 dX8_nestAtRank_18 k3 ?_
      refine lv_icmp_ge (tgt := 43) S.1 S.2.1 dX8_nestAtRank_21 (by decide) (fun c4 => ?_) (fun c4 => ?_)
      · have h := h.1 c4
        refine lv_iload_n S.1 S.2.1 dX8_nestAtRank_43 rfl (lv_at hl 3 rfl) ?_
        refine lv_iload_n S.1 S.2.1 dX8_nestAtRank_44 rfl (lv_at hl 1 rfl) ?_
        refine lv_icmp_ne (tgt := 50) S.1 S.2.1 dX8_nestAtRank_45 (by decide) (fun c5 => ?_) (fun c5 => ?_)
        · have h := h.1 c5
          refine lv_iinc (v := (x2 + nI 1)) (lv' := [(2, .int (x2 + nI 1)), (0, .ref o), (1, .int x1), (3, .int x3), (4, .int x4)]) S.1 S.2.1 dX8_nestAtRank_50 hl (k := 2) rfl rfl (by decide) rfl (fun ls hl => ?_)
          refine lv_goto (tgt := 2) S.1 S.2.1 dX8_nestAtRank_53 (by decide) ?_
          exact kK2 x1 (x2 + nI 1) H locs ls hM hS (lv_sub hl [1, 2, 0] rfl) h
        · have h := h.2 c5
          refine lv_iload_n S.1 S.2.1 dX8_nestAtRank_48 rfl (lv_at hl 2 rfl) ?_
          exact mz_iret S hr hlk hM hS rfl (Nat.le_of_ble_eq_true rfl) (Nat.le_of_ble_eq_true rfl) dX8_nestAtRank_49 ⟨_, rfl, rfl, h⟩
      · have h := h.2 c4
        refine lv_aload_n S.1 S.2.1 dX8_nestAtRank_24 rfl (lv_at hl 0 rfl) ?_
        refine lv_iload S.1 S.2.1 dX8_nestAtRank_25 (lv_at hl 4 rfl) ?_
        refine lv_iload_n S.1 S.2.1 dX8_nestAtRank_27 rfl (lv_at hl 2 rfl) ?_
        refine mz_V S hG hM hS cf_7 k3 (As := [.int x4, .int x2]) (rest := []) (c_X8_ranksBefore h) yf_X8_ranksBefore tw_1273 tw_1275 ts_19 ⟨Nat.le_of_ble_eq_true rfl, Nat.le_of_ble_eq_true rfl⟩ ⟨(Nat.le_of_ble_eq_true rfl), (Nat.le_of_ble_eq_true rfl)⟩ rfl hl.1 rfl (Nat.le_of_ble_eq_true rfl) dX8_nestAtRank_28 (fun v9 μ9 H locs hp hM hS => ?_)
        obtain ⟨u6, rfl, e9, h⟩ := hp
        rw [e9] at hM
        refine W.cs (cells' := 0) (slots' := 0) rfl rfl ?_
        refine lv_if_eq (tgt := 37) S.1 S.2.1 dX8_nestAtRank_31 (by decide) (fun c7 => ?_) (fun c7 => ?_)
        · have h := h.1 c7
          exact hB37 K2 kK2 (w_X8_nestAtRank_l15 G μ o Q K2 n) ih x1 x2 x3 x4 H locs ls hM hS (lv_sub hl [0, 1, 2, 3, 4] rfl) h
        · have h := h.2 c7
          refine lv_iinc (v := (x3 + nI 1)) (lv' := [(3, .int (x3 + nI 1)), (0, .ref o), (1, .int x1), (2, .int x2), (4, .int x4)]) S.1 S.2.1 dX8_nestAtRank_34 hl (k := 3) rfl rfl (by decide) rfl (fun ls hl => ?_)
          exact hB37 K2 kK2 (w_X8_nestAtRank_l15 G μ o Q K2 n) ih x1 x2 (x3 + nI 1) x4 H locs ls hM hS (lv_sub hl [1, 2, 3, 0, 4] rfl) h
  have hB2 : ∀ (n : Nat) (x1 : Int32) (x2 : Int32) (H : Heap) (locs : List Loc) (ls : Array Slot), Mm G μ H → va_S (Ah G) s.heap H locs → lv_has ls 5 [(0, .ref o), (1, .int x1), (2, .int x2)] → w_X8_nestAtRank_l2 G μ o Q  n x1 x2 → W p l e { frames := 1, cells := 0, slots := 0, locals := 22 } s m args below meth c H locs (0) (0) (MQ below (mQ G (pI (fun r μ' => μ' = μ ∧ Q r))) args s 0 0 (Ah G)) (F0 m 2 ls []) := by
    intro  n
    induction n with
    | zero =>
      intro x1 x2 H locs ls hM hS hl h
      exact False.elim h
    | succ n ih =>
      intro x1 x2 H locs ls hM hS hl h
      have h : w_X8_nestAtRank_b2 G μ o Q  (w_X8_nestAtRank_l2 G μ o Q  n) x1 x2 := h
      unfold w_X8_nestAtRank_b2 at h
      refine lv_iload_n S.1 S.2.1 dX8_nestAtRank_2 rfl (lv_at hl 2 rfl) ?_
      refine lv_aload_n S.1 S.2.1 dX8_nestAtRank_3 rfl (lv_at hl 0 rfl) ?_
      obtain ⟨k1, h⟩ := h
      refine mz_geti S hG hM cf_7 fd_228 tw_198 dX8_nestAtRank_4 k1 ?_
      refine lv_icmp_ge (tgt := 56) S.1 S.2.1 dX8_nestAtRank_7 (by decide) (fun c2 => ?_) (fun c2 => ?_)
      · have h := h.1 c2
        refine lv_iconst (v := (-1)) S.1 S.2.1 dX8_nestAtRank_56 (by decide) ?_
        exact mz_iret S hr hlk hM hS rfl (Nat.le_of_ble_eq_true rfl) (Nat.le_of_ble_eq_true rfl) dX8_nestAtRank_57 ⟨_, rfl, rfl, h⟩
      · have h := h.2 c2
        refine lv_iconst (v := (nI 0)) S.1 S.2.1 dX8_nestAtRank_10 (by decide) ?_
        refine lv_istore_n (lv' := [(3, .int (nI 0)), (0, .ref o), (1, .int x1), (2, .int x2)]) S.1 S.2.1 dX8_nestAtRank_11 rfl hl (by decide) rfl (fun ls hl => ?_)
        refine lv_iconst (v := (nI 0)) S.1 S.2.1 dX8_nestAtRank_12 (by decide) ?_
        refine lv_istore (lv' := [(4, .int (nI 0)), (3, .int (nI 0)), (0, .ref o), (1, .int x1), (2, .int x2)]) S.1 S.2.1 dX8_nestAtRank_13 hl (by decide) rfl (fun ls hl => ?_)
        obtain ⟨n9, h⟩ := h
        exact hB15 (w_X8_nestAtRank_l2 G μ o Q  n) ih n9 x1 x2 (nI 0) (nI 0) H locs ls hM hS (lv_sub hl [2, 3, 4, 1, 0] rfl) h
  intro H locs ls hM hS hl
  have hl : lv_has ls 5 [(0, .ref o), (1, .int x1)] := hl
  unfold w_X8_nestAtRank at h
  refine lv_iconst (v := (nI 0)) S.1 S.2.1 dX8_nestAtRank_0 (by decide) ?_
  refine lv_istore_n (lv' := [(2, .int (nI 0)), (0, .ref o), (1, .int x1)]) S.1 S.2.1 dX8_nestAtRank_1 rfl hl (by decide) rfl (fun ls hl => ?_)
  obtain ⟨n9, h⟩ := h
  exact hB2  n9 x1 (nI 0) H locs ls hM hS (lv_sub hl [1, 2, 0] rfl) h
set_option maxRecDepth 100000 in
set_option maxHeartbeats 4000000 in
theorem c_X8_sumOfAttempts {l : Launch} {G : mgT} {μ : mmT} {o : Nat} {Q : Int32 → Prop} (h : w_X8_sumOfAttempts G μ o Q) : MC G l yX8_sumOfAttempts cX8_sumOfAttempts 3 (some .int) { frames := 0, cells := 0, slots := 0, locals := 0 } [.ref o] μ (pI (fun r μ' => μ' = μ ∧ Q r)) := by
  refine mz_MC (by decide +kernel) (Nat.le_of_ble_eq_true rfl) (fun p e s m args below meth c S hG hr hlk hnm => ?_)
  have hB4 : ∀ (n : Nat) (x1 : Int32) (x2 : Int32) (H : Heap) (locs : List Loc) (ls : Array Slot), Mm G μ H → va_S (Ah G) s.heap H locs → lv_has ls 3 [(0, .ref o), (1, .int x1), (2, .int x2)] → w_X8_sumOfAttempts_l4 G μ o Q  n x1 x2 → W p l e { frames := 0, cells := 0, slots := 0, locals := 0 } s m args below meth c H locs (0) (0) (MQ below (mQ G (pI (fun r μ' => μ' = μ ∧ Q r))) args s 0 0 (Ah G)) (F0 m 4 ls []) := by
    intro  n
    induction n with
    | zero =>
      intro x1 x2 H locs ls hM hS hl h
      exact False.elim h
    | succ n ih =>
      intro x1 x2 H locs ls hM hS hl h
      have h : w_X8_sumOfAttempts_b4 G μ o Q  (w_X8_sumOfAttempts_l4 G μ o Q  n) x1 x2 := h
      unfold w_X8_sumOfAttempts_b4 at h
      refine lv_iload_n S.1 S.2.1 dX8_sumOfAttempts_4 rfl (lv_at hl 2 rfl) ?_
      refine lv_aload_n S.1 S.2.1 dX8_sumOfAttempts_5 rfl (lv_at hl 0 rfl) ?_
      obtain ⟨k1, h⟩ := h
      refine mz_geti S hG hM cf_7 fd_230 tw_202 dX8_sumOfAttempts_6 k1 ?_
      refine lv_icmp_ge (tgt := 30) S.1 S.2.1 dX8_sumOfAttempts_9 (by decide) (fun c2 => ?_) (fun c2 => ?_)
      · have h := h.1 c2
        refine lv_iload_n S.1 S.2.1 dX8_sumOfAttempts_30 rfl (lv_at hl 1 rfl) ?_
        exact mz_iret S hr hlk hM hS rfl (Nat.le_of_ble_eq_true rfl) (Nat.le_of_ble_eq_true rfl) dX8_sumOfAttempts_31 ⟨_, rfl, rfl, h⟩
      · have h := h.2 c2
        refine lv_iload_n S.1 S.2.1 dX8_sumOfAttempts_12 rfl (lv_at hl 1 rfl) ?_
        refine lv_aload_n S.1 S.2.1 dX8_sumOfAttempts_13 rfl (lv_at hl 0 rfl) ?_
        refine mz_getr S hG hM cf_7 fd_226 tw_194 dX8_sumOfAttempts_14 k1 ?_
        refine lv_iload_n S.1 S.2.1 dX8_sumOfAttempts_17 rfl (lv_at hl 2 rfl) ?_
        obtain ⟨a3, e4, h⟩ := h
        refine mz_o1 e4 ?_
        obtain ⟨k5, h⟩ := h
        obtain ⟨b6, h⟩ := h
        refine mz_aald (j := 7) S hG hM dX8_sumOfAttempts_18 (by decide) rfl k5 b6 ?_
        obtain ⟨a7, e8, h⟩ := h
        refine mz_o0 e8 ?_
        obtain ⟨k9, h⟩ := h
        refine mz_geti S hG hM cf_4 fd_131 tw_171 dX8_sumOfAttempts_19 k9 ?_
        refine lv_iadd S.1 S.2.1 dX8_sumOfAttempts_22 ?_
        refine lv_istore_n (lv' := [(1, .int (x1 + (mI μ 131 a7))), (0, .ref o), (2, .int x2)]) S.1 S.2.1 dX8_sumOfAttempts_23 rfl hl (by decide) rfl (fun ls hl => ?_)
        refine lv_iinc (v := (x2 + nI 1)) (lv' := [(2, .int (x2 + nI 1)), (1, .int (x1 + (mI μ 131 a7))), (0, .ref o)]) S.1 S.2.1 dX8_sumOfAttempts_24 hl (k := 2) rfl rfl (by decide) rfl (fun ls hl => ?_)
        refine lv_goto (tgt := 4) S.1 S.2.1 dX8_sumOfAttempts_27 (by decide) ?_
        exact ih (x1 + (mI μ 131 a7)) (x2 + nI 1) H locs ls hM hS (lv_sub hl [2, 1, 0] rfl) h
  intro H locs ls hM hS hl
  have hl : lv_has ls 3 [(0, .ref o)] := hl
  unfold w_X8_sumOfAttempts at h
  refine lv_iconst (v := (nI 0)) S.1 S.2.1 dX8_sumOfAttempts_0 (by decide) ?_
  refine lv_istore_n (lv' := [(1, .int (nI 0)), (0, .ref o)]) S.1 S.2.1 dX8_sumOfAttempts_1 rfl hl (by decide) rfl (fun ls hl => ?_)
  refine lv_iconst (v := (nI 0)) S.1 S.2.1 dX8_sumOfAttempts_2 (by decide) ?_
  refine lv_istore_n (lv' := [(2, .int (nI 0)), (1, .int (nI 0)), (0, .ref o)]) S.1 S.2.1 dX8_sumOfAttempts_3 rfl hl (by decide) rfl (fun ls hl => ?_)
  obtain ⟨n9, h⟩ := h
  exact hB4  n9 (nI 0) (nI 0) H locs ls hM hS (lv_sub hl [2, 1, 0] rfl) h
set_option maxRecDepth 100000 in
set_option maxHeartbeats 4000000 in
theorem c_X8_messagesWithStatus {l : Launch} {G : mgT} {μ : mmT} {o : Nat} {x1 : Int32} {Q : Int32 → Prop} (h : w_X8_messagesWithStatus G μ o x1 Q) : MC G l yX8_messagesWithStatus cX8_messagesWithStatus 4 (some .int) { frames := 0, cells := 0, slots := 0, locals := 0 } [.ref o, .int x1] μ (pI (fun r μ' => μ' = μ ∧ Q r)) := by
  refine mz_MC (by decide +kernel) (Nat.le_of_ble_eq_true rfl) (fun p e s m args below meth c S hG hr hlk hnm => ?_)
  have hB28 : ∀ (K4 : Int32 → Int32 → Int32 → Prop) (kK4 : ∀ (x1 : Int32) (x2 : Int32) (x3 : Int32) (H : Heap) (locs : List Loc) (ls : Array Slot), Mm G μ H → va_S (Ah G) s.heap H locs → lv_has ls 4 [(0, .ref o), (1, .int x1), (2, .int x2), (3, .int x3)] → K4 x1 x2 x3 → W p l e { frames := 0, cells := 0, slots := 0, locals := 0 } s m args below meth c H locs (0) (0) (MQ below (mQ G (pI (fun r μ' => μ' = μ ∧ Q r))) args s 0 0 (Ah G)) (F0 m 4 ls [])) (x1 : Int32) (x2 : Int32) (x3 : Int32) (H : Heap) (locs : List Loc) (ls : Array Slot), Mm G μ H → va_S (Ah G) s.heap H locs → lv_has ls 4 [(0, .ref o), (1, .int x1), (2, .int x2), (3, .int x3)] → w_X8_messagesWithStatus_b28 G μ o Q K4 x1 x2 x3 → W p l e { frames := 0, cells := 0, slots := 0, locals := 0 } s m args below meth c H locs (0) (0) (MQ below (mQ G (pI (fun r μ' => μ' = μ ∧ Q r))) args s 0 0 (Ah G)) (F0 m 28 ls []) := by
    intro K4 kK4 x1 x2 x3 H locs ls hM hS hl h
    unfold w_X8_messagesWithStatus_b28 at h
    refine lv_iinc (v := (x3 + nI 1)) (lv' := [(3, .int (x3 + nI 1)), (0, .ref o), (1, .int x1), (2, .int x2)]) S.1 S.2.1 dX8_messagesWithStatus_28 hl (k := 3) rfl rfl (by decide) rfl (fun ls hl => ?_)
    refine lv_goto (tgt := 4) S.1 S.2.1 dX8_messagesWithStatus_31 (by decide) ?_
    exact kK4 x1 x2 (x3 + nI 1) H locs ls hM hS (lv_sub hl [1, 2, 3, 0] rfl) h
  have hB4 : ∀ (n : Nat) (x1 : Int32) (x2 : Int32) (x3 : Int32) (H : Heap) (locs : List Loc) (ls : Array Slot), Mm G μ H → va_S (Ah G) s.heap H locs → lv_has ls 4 [(0, .ref o), (1, .int x1), (2, .int x2), (3, .int x3)] → w_X8_messagesWithStatus_l4 G μ o Q  n x1 x2 x3 → W p l e { frames := 0, cells := 0, slots := 0, locals := 0 } s m args below meth c H locs (0) (0) (MQ below (mQ G (pI (fun r μ' => μ' = μ ∧ Q r))) args s 0 0 (Ah G)) (F0 m 4 ls []) := by
    intro  n
    induction n with
    | zero =>
      intro x1 x2 x3 H locs ls hM hS hl h
      exact False.elim h
    | succ n ih =>
      intro x1 x2 x3 H locs ls hM hS hl h
      have h : w_X8_messagesWithStatus_b4 G μ o Q  (w_X8_messagesWithStatus_l4 G μ o Q  n) x1 x2 x3 := h
      unfold w_X8_messagesWithStatus_b4 at h
      refine lv_iload_n S.1 S.2.1 dX8_messagesWithStatus_4 rfl (lv_at hl 3 rfl) ?_
      refine lv_aload_n S.1 S.2.1 dX8_messagesWithStatus_5 rfl (lv_at hl 0 rfl) ?_
      obtain ⟨k1, h⟩ := h
      refine mz_geti S hG hM cf_7 fd_230 tw_202 dX8_messagesWithStatus_6 k1 ?_
      refine lv_icmp_ge (tgt := 34) S.1 S.2.1 dX8_messagesWithStatus_9 (by decide) (fun c2 => ?_) (fun c2 => ?_)
      · have h := h.1 c2
        refine lv_iload_n S.1 S.2.1 dX8_messagesWithStatus_34 rfl (lv_at hl 2 rfl) ?_
        exact mz_iret S hr hlk hM hS rfl (Nat.le_of_ble_eq_true rfl) (Nat.le_of_ble_eq_true rfl) dX8_messagesWithStatus_35 ⟨_, rfl, rfl, h⟩
      · have h := h.2 c2
        refine lv_aload_n S.1 S.2.1 dX8_messagesWithStatus_12 rfl (lv_at hl 0 rfl) ?_
        refine mz_getr S hG hM cf_7 fd_226 tw_194 dX8_messagesWithStatus_13 k1 ?_
        refine lv_iload_n S.1 S.2.1 dX8_messagesWithStatus_16 rfl (lv_at hl 3 rfl) ?_
        obtain ⟨a3, e4, h⟩ := h
        refine mz_o1 e4 ?_
        obtain ⟨k5, h⟩ := h
        obtain ⟨b6, h⟩ := h
        refine mz_aald (j := 7) S hG hM dX8_messagesWithStatus_17 (by decide) rfl k5 b6 ?_
        obtain ⟨a7, e8, h⟩ := h
        refine mz_o0 e8 ?_
        obtain ⟨k9, h⟩ := h
        refine mz_geti S hG hM cf_4 fd_132 tw_174 dX8_messagesWithStatus_18 k9 ?_
        refine lv_iload_n S.1 S.2.1 dX8_messagesWithStatus_21 rfl (lv_at hl 1 rfl) ?_
        refine lv_icmp_ne (tgt := 28) S.1 S.2.1 dX8_messagesWithStatus_22 (by decide) (fun c10 => ?_) (fun c10 => ?_)
        · have h := h.1 c10
          exact hB28 (w_X8_messagesWithStatus_l4 G μ o Q  n) ih x1 x2 x3 H locs ls hM hS (lv_sub hl [0, 1, 2, 3] rfl) h
        · have h := h.2 c10
          refine lv_iinc (v := (x2 + nI 1)) (lv' := [(2, .int (x2 + nI 1)), (0, .ref o), (1, .int x1), (3, .int x3)]) S.1 S.2.1 dX8_messagesWithStatus_25 hl (k := 2) rfl rfl (by decide) rfl (fun ls hl => ?_)
          exact hB28 (w_X8_messagesWithStatus_l4 G μ o Q  n) ih x1 (x2 + nI 1) x3 H locs ls hM hS (lv_sub hl [1, 2, 0, 3] rfl) h
  intro H locs ls hM hS hl
  have hl : lv_has ls 4 [(0, .ref o), (1, .int x1)] := hl
  unfold w_X8_messagesWithStatus at h
  refine lv_iconst (v := (nI 0)) S.1 S.2.1 dX8_messagesWithStatus_0 (by decide) ?_
  refine lv_istore_n (lv' := [(2, .int (nI 0)), (0, .ref o), (1, .int x1)]) S.1 S.2.1 dX8_messagesWithStatus_1 rfl hl (by decide) rfl (fun ls hl => ?_)
  refine lv_iconst (v := (nI 0)) S.1 S.2.1 dX8_messagesWithStatus_2 (by decide) ?_
  refine lv_istore_n (lv' := [(3, .int (nI 0)), (2, .int (nI 0)), (0, .ref o), (1, .int x1)]) S.1 S.2.1 dX8_messagesWithStatus_3 rfl hl (by decide) rfl (fun ls hl => ?_)
  obtain ⟨n9, h⟩ := h
  exact hB4  n9 x1 (nI 0) (nI 0) H locs ls hM hS (lv_sub hl [2, 3, 1, 0] rfl) h
set_option maxRecDepth 100000 in
set_option maxHeartbeats 4000000 in
theorem c_X8_flyingCrows {l : Launch} {G : mgT} {μ : mmT} {o : Nat} {Q : Int32 → Prop} (h : w_X8_flyingCrows G μ o Q) : MC G l yX8_flyingCrows cX8_flyingCrows 3 (some .int) { frames := 0, cells := 0, slots := 0, locals := 0 } [.ref o] μ (pI (fun r μ' => μ' = μ ∧ Q r)) := by
  refine mz_MC (by decide +kernel) (Nat.le_of_ble_eq_true rfl) (fun p e s m args below meth c S hG hr hlk hnm => ?_)
  have hB27 : ∀ (K4 : Int32 → Int32 → Prop) (kK4 : ∀ (x1 : Int32) (x2 : Int32) (H : Heap) (locs : List Loc) (ls : Array Slot), Mm G μ H → va_S (Ah G) s.heap H locs → lv_has ls 3 [(0, .ref o), (1, .int x1), (2, .int x2)] → K4 x1 x2 → W p l e { frames := 0, cells := 0, slots := 0, locals := 0 } s m args below meth c H locs (0) (0) (MQ below (mQ G (pI (fun r μ' => μ' = μ ∧ Q r))) args s 0 0 (Ah G)) (F0 m 4 ls [])) (x1 : Int32) (x2 : Int32) (H : Heap) (locs : List Loc) (ls : Array Slot), Mm G μ H → va_S (Ah G) s.heap H locs → lv_has ls 3 [(0, .ref o), (1, .int x1), (2, .int x2)] → w_X8_flyingCrows_b27 G μ o Q K4 x1 x2 → W p l e { frames := 0, cells := 0, slots := 0, locals := 0 } s m args below meth c H locs (0) (0) (MQ below (mQ G (pI (fun r μ' => μ' = μ ∧ Q r))) args s 0 0 (Ah G)) (F0 m 27 ls []) := by
    intro K4 kK4 x1 x2 H locs ls hM hS hl h
    unfold w_X8_flyingCrows_b27 at h
    refine lv_iinc (v := (x2 + nI 1)) (lv' := [(2, .int (x2 + nI 1)), (0, .ref o), (1, .int x1)]) S.1 S.2.1 dX8_flyingCrows_27 hl (k := 2) rfl rfl (by decide) rfl (fun ls hl => ?_)
    refine lv_goto (tgt := 4) S.1 S.2.1 dX8_flyingCrows_30 (by decide) ?_
    exact kK4 x1 (x2 + nI 1) H locs ls hM hS (lv_sub hl [1, 2, 0] rfl) h
  have hB4 : ∀ (n : Nat) (x1 : Int32) (x2 : Int32) (H : Heap) (locs : List Loc) (ls : Array Slot), Mm G μ H → va_S (Ah G) s.heap H locs → lv_has ls 3 [(0, .ref o), (1, .int x1), (2, .int x2)] → w_X8_flyingCrows_l4 G μ o Q  n x1 x2 → W p l e { frames := 0, cells := 0, slots := 0, locals := 0 } s m args below meth c H locs (0) (0) (MQ below (mQ G (pI (fun r μ' => μ' = μ ∧ Q r))) args s 0 0 (Ah G)) (F0 m 4 ls []) := by
    intro  n
    induction n with
    | zero =>
      intro x1 x2 H locs ls hM hS hl h
      exact False.elim h
    | succ n ih =>
      intro x1 x2 H locs ls hM hS hl h
      have h : w_X8_flyingCrows_b4 G μ o Q  (w_X8_flyingCrows_l4 G μ o Q  n) x1 x2 := h
      unfold w_X8_flyingCrows_b4 at h
      refine lv_iload_n S.1 S.2.1 dX8_flyingCrows_4 rfl (lv_at hl 2 rfl) ?_
      refine lv_aload_n S.1 S.2.1 dX8_flyingCrows_5 rfl (lv_at hl 0 rfl) ?_
      obtain ⟨k1, h⟩ := h
      refine mz_geti S hG hM cf_7 fd_229 tw_200 dX8_flyingCrows_6 k1 ?_
      refine lv_icmp_ge (tgt := 33) S.1 S.2.1 dX8_flyingCrows_9 (by decide) (fun c2 => ?_) (fun c2 => ?_)
      · have h := h.1 c2
        refine lv_iload_n S.1 S.2.1 dX8_flyingCrows_33 rfl (lv_at hl 1 rfl) ?_
        exact mz_iret S hr hlk hM hS rfl (Nat.le_of_ble_eq_true rfl) (Nat.le_of_ble_eq_true rfl) dX8_flyingCrows_34 ⟨_, rfl, rfl, h⟩
      · have h := h.2 c2
        refine lv_aload_n S.1 S.2.1 dX8_flyingCrows_12 rfl (lv_at hl 0 rfl) ?_
        refine mz_getr S hG hM cf_7 fd_225 tw_193 dX8_flyingCrows_13 k1 ?_
        refine lv_iload_n S.1 S.2.1 dX8_flyingCrows_16 rfl (lv_at hl 2 rfl) ?_
        obtain ⟨a3, e4, h⟩ := h
        refine mz_o1 e4 ?_
        obtain ⟨k5, h⟩ := h
        obtain ⟨b6, h⟩ := h
        refine mz_aald (j := 6) S hG hM dX8_flyingCrows_17 (by decide) rfl k5 b6 ?_
        obtain ⟨a7, e8, h⟩ := h
        refine mz_o0 e8 ?_
        obtain ⟨k9, h⟩ := h
        refine mz_geti S hG hM cf_2 fd_64 tw_141 dX8_flyingCrows_18 k9 ?_
        refine lv_if_eq (tgt := 27) S.1 S.2.1 dX8_flyingCrows_21 (by decide) (fun c10 => ?_) (fun c10 => ?_)
        · have h := h.1 c10
          exact hB27 (w_X8_flyingCrows_l4 G μ o Q  n) ih x1 x2 H locs ls hM hS (lv_sub hl [0, 1, 2] rfl) h
        · have h := h.2 c10
          refine lv_iinc (v := (x1 + nI 1)) (lv' := [(1, .int (x1 + nI 1)), (0, .ref o), (2, .int x2)]) S.1 S.2.1 dX8_flyingCrows_24 hl (k := 1) rfl rfl (by decide) rfl (fun ls hl => ?_)
          exact hB27 (w_X8_flyingCrows_l4 G μ o Q  n) ih (x1 + nI 1) x2 H locs ls hM hS (lv_sub hl [1, 0, 2] rfl) h
  intro H locs ls hM hS hl
  have hl : lv_has ls 3 [(0, .ref o)] := hl
  unfold w_X8_flyingCrows at h
  refine lv_iconst (v := (nI 0)) S.1 S.2.1 dX8_flyingCrows_0 (by decide) ?_
  refine lv_istore_n (lv' := [(1, .int (nI 0)), (0, .ref o)]) S.1 S.2.1 dX8_flyingCrows_1 rfl hl (by decide) rfl (fun ls hl => ?_)
  refine lv_iconst (v := (nI 0)) S.1 S.2.1 dX8_flyingCrows_2 (by decide) ?_
  refine lv_istore_n (lv' := [(2, .int (nI 0)), (1, .int (nI 0)), (0, .ref o)]) S.1 S.2.1 dX8_flyingCrows_3 rfl hl (by decide) rfl (fun ls hl => ?_)
  obtain ⟨n9, h⟩ := h
  exact hB4  n9 (nI 0) (nI 0) H locs ls hM hS (lv_sub hl [2, 1, 0] rfl) h
set_option maxRecDepth 100000 in
set_option maxHeartbeats 4000000 in
theorem c_X8_messagesInInboxes {l : Launch} {G : mgT} {μ : mmT} {o : Nat} {Q : Int32 → Prop} (h : w_X8_messagesInInboxes G μ o Q) : MC G l yX8_messagesInInboxes cX8_messagesInInboxes 3 (some .int) { frames := 0, cells := 0, slots := 0, locals := 0 } [.ref o] μ (pI (fun r μ' => μ' = μ ∧ Q r)) := by
  refine mz_MC (by decide +kernel) (Nat.le_of_ble_eq_true rfl) (fun p e s m args below meth c S hG hr hlk hnm => ?_)
  have hB4 : ∀ (n : Nat) (x1 : Int32) (x2 : Int32) (H : Heap) (locs : List Loc) (ls : Array Slot), Mm G μ H → va_S (Ah G) s.heap H locs → lv_has ls 3 [(0, .ref o), (1, .int x1), (2, .int x2)] → w_X8_messagesInInboxes_l4 G μ o Q  n x1 x2 → W p l e { frames := 0, cells := 0, slots := 0, locals := 0 } s m args below meth c H locs (0) (0) (MQ below (mQ G (pI (fun r μ' => μ' = μ ∧ Q r))) args s 0 0 (Ah G)) (F0 m 4 ls []) := by
    intro  n
    induction n with
    | zero =>
      intro x1 x2 H locs ls hM hS hl h
      exact False.elim h
    | succ n ih =>
      intro x1 x2 H locs ls hM hS hl h
      have h : w_X8_messagesInInboxes_b4 G μ o Q  (w_X8_messagesInInboxes_l4 G μ o Q  n) x1 x2 := h
      unfold w_X8_messagesInInboxes_b4 at h
      refine lv_iload_n S.1 S.2.1 dX8_messagesInInboxes_4 rfl (lv_at hl 2 rfl) ?_
      refine lv_aload_n S.1 S.2.1 dX8_messagesInInboxes_5 rfl (lv_at hl 0 rfl) ?_
      obtain ⟨k1, h⟩ := h
      refine mz_geti S hG hM cf_7 fd_228 tw_198 dX8_messagesInInboxes_6 k1 ?_
      refine lv_icmp_ge (tgt := 30) S.1 S.2.1 dX8_messagesInInboxes_9 (by decide) (fun c2 => ?_) (fun c2 => ?_)
      · have h := h.1 c2
        refine lv_iload_n S.1 S.2.1 dX8_messagesInInboxes_30 rfl (lv_at hl 1 rfl) ?_
        exact mz_iret S hr hlk hM hS rfl (Nat.le_of_ble_eq_true rfl) (Nat.le_of_ble_eq_true rfl) dX8_messagesInInboxes_31 ⟨_, rfl, rfl, h⟩
      · have h := h.2 c2
        refine lv_iload_n S.1 S.2.1 dX8_messagesInInboxes_12 rfl (lv_at hl 1 rfl) ?_
        refine lv_aload_n S.1 S.2.1 dX8_messagesInInboxes_13 rfl (lv_at hl 0 rfl) ?_
        refine mz_getr S hG hM cf_7 fd_224 tw_192 dX8_messagesInInboxes_14 k1 ?_
        refine lv_iload_n S.1 S.2.1 dX8_messagesInInboxes_17 rfl (lv_at hl 2 rfl) ?_
        obtain ⟨a3, e4, h⟩ := h
        refine mz_o1 e4 ?_
        obtain ⟨k5, h⟩ := h
        obtain ⟨b6, h⟩ := h
        refine mz_aald (j := 8) S hG hM dX8_messagesInInboxes_18 (by decide) rfl k5 b6 ?_
        obtain ⟨a7, e8, h⟩ := h
        refine mz_o0 e8 ?_
        obtain ⟨k9, h⟩ := h
        refine mz_geti S hG hM cf_5 fd_165 tw_114 dX8_messagesInInboxes_19 k9 ?_
        refine lv_iadd S.1 S.2.1 dX8_messagesInInboxes_22 ?_
        refine lv_istore_n (lv' := [(1, .int (x1 + (mI μ 165 a7))), (0, .ref o), (2, .int x2)]) S.1 S.2.1 dX8_messagesInInboxes_23 rfl hl (by decide) rfl (fun ls hl => ?_)
        refine lv_iinc (v := (x2 + nI 1)) (lv' := [(2, .int (x2 + nI 1)), (1, .int (x1 + (mI μ 165 a7))), (0, .ref o)]) S.1 S.2.1 dX8_messagesInInboxes_24 hl (k := 2) rfl rfl (by decide) rfl (fun ls hl => ?_)
        refine lv_goto (tgt := 4) S.1 S.2.1 dX8_messagesInInboxes_27 (by decide) ?_
        exact ih (x1 + (mI μ 165 a7)) (x2 + nI 1) H locs ls hM hS (lv_sub hl [2, 1, 0] rfl) h
  intro H locs ls hM hS hl
  have hl : lv_has ls 3 [(0, .ref o)] := hl
  unfold w_X8_messagesInInboxes at h
  refine lv_iconst (v := (nI 0)) S.1 S.2.1 dX8_messagesInInboxes_0 (by decide) ?_
  refine lv_istore_n (lv' := [(1, .int (nI 0)), (0, .ref o)]) S.1 S.2.1 dX8_messagesInInboxes_1 rfl hl (by decide) rfl (fun ls hl => ?_)
  refine lv_iconst (v := (nI 0)) S.1 S.2.1 dX8_messagesInInboxes_2 (by decide) ?_
  refine lv_istore_n (lv' := [(2, .int (nI 0)), (1, .int (nI 0)), (0, .ref o)]) S.1 S.2.1 dX8_messagesInInboxes_3 rfl hl (by decide) rfl (fun ls hl => ?_)
  obtain ⟨n9, h⟩ := h
  exact hB4  n9 (nI 0) (nI 0) H locs ls hM hS (lv_sub hl [2, 1, 0] rfl) h
set_option maxRecDepth 100000 in
set_option maxHeartbeats 4000000 in
theorem c_X9_existing {l : Launch} {G : mgT} {μ : mmT} {o : Nat} {Q : Int32 → Prop} (h : w_X9_existing G μ o Q) : MC G l yX9_existing cX9_existing 1 (some .int) { frames := 0, cells := 0, slots := 0, locals := 0 } [.ref o] μ (pI (fun r μ' => μ' = μ ∧ Q r)) := by
  refine mz_MC (by decide +kernel) (Nat.le_of_ble_eq_true rfl) (fun p e s m args below meth c S hG hr hlk hnm => ?_)
  intro H locs ls hM hS hl
  have hl : lv_has ls 1 [(0, .ref o)] := hl
  unfold w_X9_existing at h
  refine lv_aload_n S.1 S.2.1 dX9_existing_0 rfl (lv_at hl 0 rfl) ?_
  obtain ⟨k1, h⟩ := h
  refine mz_geti S hG hM cf_8 fd_256 tw_62 dX9_existing_1 k1 ?_
  refine lv_aload_n S.1 S.2.1 dX9_existing_4 rfl (lv_at hl 0 rfl) ?_
  refine mz_geti S hG hM cf_8 fd_258 tw_68 dX9_existing_5 k1 ?_
  refine lv_isub S.1 S.2.1 dX9_existing_8 ?_
  refine lv_aload_n S.1 S.2.1 dX9_existing_9 rfl (lv_at hl 0 rfl) ?_
  refine mz_geti S hG hM cf_8 fd_259 tw_71 dX9_existing_10 k1 ?_
  refine lv_isub S.1 S.2.1 dX9_existing_13 ?_
  refine lv_aload_n S.1 S.2.1 dX9_existing_14 rfl (lv_at hl 0 rfl) ?_
  refine mz_geti S hG hM cf_8 fd_260 tw_74 dX9_existing_15 k1 ?_
  refine lv_isub S.1 S.2.1 dX9_existing_18 ?_
  refine lv_aload_n S.1 S.2.1 dX9_existing_19 rfl (lv_at hl 0 rfl) ?_
  refine mz_geti S hG hM cf_8 fd_261 tw_77 dX9_existing_20 k1 ?_
  refine lv_isub S.1 S.2.1 dX9_existing_23 ?_
  exact mz_iret S hr hlk hM hS rfl (Nat.le_of_ble_eq_true rfl) (Nat.le_of_ble_eq_true rfl) dX9_existing_24 ⟨_, rfl, rfl, h⟩
set_option maxRecDepth 100000 in
set_option maxHeartbeats 4000000 in
theorem c_J5_init_d00df {l : Launch} {G : mgT} {μ : mmT} {z : Nat} {o : Nat} {Q : mmT → Nat → Prop} (h : w_J5_init_d00df G μ z o Q) : MZ G l yJ5_init_d00df cJ5_init_d00df 2 { frames := 1, cells := 1, slots := 16, locals := 20 } [.ref o, .int (nI 16)] μ z Q := by
  refine mz_MZ (by decide +kernel) (Nat.le_of_ble_eq_true rfl) (fun p e s m args below meth c S hG hr hlk hnm => ?_)
  intro H locs ls hM hS hg hz hl
  have hl : lv_has ls 2 [(0, .ref o), (1, .int (nI 16))] := hl
  unfold w_J5_init_d00df at h
  refine lv_aload_n S.1 S.2.1 dJ5_init_d00df_0 rfl (lv_at hl 0 rfl) ?_
  refine W.objInit S.1 S.2.1 S.2.2.2.1 (S.2.2.2.2 _ tw_319) (S.2.2.2.2 _ tw_42) (S.2.2.2.2 _ tw_43) rfl (by rw [S.2.2.1]; exact hl.1) rfl dJ5_init_d00df_1 (Nat.le_of_ble_eq_true rfl) (Nat.le_of_ble_eq_true rfl) ?_
  refine W.eq (g2 := F0 m 4 ls []) rfl ?_
  refine va_gets S.1 S.2.1 (hG.2.2.2.2.2.2.2.2.2.2.1) hS S.2.2.2.1 (S.2.2.2.2 _ tw_320) (fun _ q => q) dJ5_init_d00df_4 ?_
  obtain ⟨c1, h⟩ := h
  refine lv_if_eq (tgt := 25) S.1 S.2.1 dJ5_init_d00df_7 (by decide) (fun c => absurd c c1) (fun _ => ?_)
  refine lv_aload_n S.1 S.2.1 dJ5_init_d00df_10 rfl (lv_at hl 0 rfl) ?_
  refine lv_iload_n S.1 S.2.1 dJ5_init_d00df_11 rfl (lv_at hl 1 rfl) ?_
  refine mz_newa (j := 0) (atype := .byte) S hG hM hS hz hg (by decide) rfl tw_342 (N := 16) (nI_pos (Nat.le_of_ble_eq_true rfl)) (nI_clamp (Nat.le_of_ble_eq_true rfl)) (Nat.le_of_ble_eq_true rfl) (Nat.le_of_ble_eq_true rfl) (Nat.le_of_ble_eq_true rfl) dJ5_init_d00df_12 (fun H hM hS hz => ?_)
  have hg := Nat.le_succ_of_le hg
  refine W.cs (cells' := 1) (slots' := 16) rfl rfl ?_
  obtain ⟨k2, h⟩ := h
  refine mz_putr (x := (some z)) S hG hM hS cf_0 fd_0 tw_329 dJ5_init_d00df_14 k2 rfl rfl (fun H locs hM hS hz9 => ?_)
  have hz := hz9.trans hz
  refine lv_aload_n S.1 S.2.1 dJ5_init_d00df_17 rfl (lv_at hl 0 rfl) ?_
  refine lv_iconst (v := (nI 0)) S.1 S.2.1 dJ5_init_d00df_18 (by decide) ?_
  obtain ⟨k3, h⟩ := h
  refine mz_puti S hG hM hS cf_0 fd_1 tw_330 dJ5_init_d00df_19 k3 rfl rfl (fun H locs hM hS hz9 => ?_)
  have hz := hz9.trans hz
  refine lv_goto (tgt := 38) S.1 S.2.1 dJ5_init_d00df_22 (by decide) ?_
  exact mz_zret S hr hlk hM hS hz hg (Nat.le_of_ble_eq_true rfl) (Nat.le_of_ble_eq_true rfl) dJ5_init_d00df_38 h
set_option maxRecDepth 100000 in
set_option maxHeartbeats 4000000 in
theorem c_J4_init_da8c8 {l : Launch} {G : mgT} {μ : mmT} {z : Nat} {o : Nat} {Q : mmT → Nat → Prop} (h : w_J4_init_da8c8 G μ z o Q) : MZ G l yJ4_init_da8c8 cJ4_init_da8c8 1 { frames := 2, cells := 1, slots := 16, locals := 41 } [.ref o] μ z Q := by
  refine mz_MZ (by decide +kernel) (Nat.le_of_ble_eq_true rfl) (fun p e s m args below meth c S hG hr hlk hnm => ?_)
  intro H locs ls hM hS hg hz hl
  have hl : lv_has ls 1 [(0, .ref o)] := hl
  unfold w_J4_init_da8c8 at h
  refine lv_aload_n S.1 S.2.1 dJ4_init_da8c8_0 rfl (lv_at hl 0 rfl) ?_
  refine lv_bipush (v := (nI 16)) S.1 S.2.1 dJ4_init_da8c8_1 (by decide) ?_
  obtain ⟨k1, h⟩ := h
  refine mz_I S hG hM hS hz hg (As := [.int (nI 16)]) (rest := []) (c_J5_init_d00df h) yf_J5_init_d00df rfl tw_316 tw_317 ⟨Nat.le_of_ble_eq_true rfl, Nat.le_of_ble_eq_true rfl⟩ ⟨(Nat.le_of_ble_eq_true rfl), (Nat.le_of_ble_eq_true rfl)⟩ rfl hl.1 rfl (Nat.le_of_ble_eq_true rfl) dJ4_init_da8c8_3 (fun μ2 z3 H locs h hM hS hg hz => ?_)
  refine W.cs (cells' := 1) (slots' := 16) rfl rfl ?_
  exact mz_zret S hr hlk hM hS hz hg (Nat.le_of_ble_eq_true rfl) (Nat.le_of_ble_eq_true rfl) dJ4_init_da8c8_6 h
set_option maxRecDepth 100000 in
set_option maxHeartbeats 4000000 in
theorem c_X10_init {l : Launch} {G : mgT} {μ : mmT} {z : Nat} {o : Nat} {Q : mmT → Nat → Prop} (h : w_X10_init G μ z o Q) : MZ G l yX10_init cX10_init 1 { frames := 4, cells := 640, slots := 4165, locals := 82 } [.ref o] μ z Q := by
  refine mz_MZ (by decide +kernel) (Nat.le_of_ble_eq_true rfl) (fun p e s m args below meth c S hG hr hlk hnm => ?_)
  intro H locs ls hM hS hg hz hl
  have hl : lv_has ls 1 [(0, .ref o)] := hl
  unfold w_X10_init at h
  refine lv_aload_n S.1 S.2.1 dX10_init_0 rfl (lv_at hl 0 rfl) ?_
  refine W.objInit S.1 S.2.1 S.2.2.2.1 (S.2.2.2.2 _ tw_41) (S.2.2.2.2 _ tw_42) (S.2.2.2.2 _ tw_43) rfl (by rw [S.2.2.1]; exact hl.1) rfl dX10_init_1 (Nat.le_of_ble_eq_true rfl) (Nat.le_of_ble_eq_true rfl) ?_
  refine W.eq (g2 := F0 m 4 ls []) rfl ?_
  refine lv_aload_n S.1 S.2.1 dX10_init_4 rfl (lv_at hl 0 rfl) ?_
  refine mz_new S hG hM hS hz hg cf_7 nv_7 tw_44 tw_45 tw_2 (Nat.le_of_ble_eq_true rfl) (Nat.le_of_ble_eq_true rfl) dX10_init_5 (fun H hM hS hz => ?_)
  have hg := Nat.le_succ_of_le hg
  refine W.cs (cells' := 1) (slots' := 9) rfl rfl ?_
  refine lv_dup S.1 S.2.1 dX10_init_8 rfl ?_
  obtain ⟨k1, h⟩ := h
  refine mz_I S hG hM hS hz hg (As := []) (rest := [.ref z, .ref o]) (c_X8_init h) yf_X8_init rfl tw_46 tw_47 ⟨Nat.le_of_ble_eq_true rfl, Nat.le_of_ble_eq_true rfl⟩ ⟨(Nat.le_of_ble_eq_true rfl), (Nat.le_of_ble_eq_true rfl)⟩ rfl hl.1 rfl (Nat.le_of_ble_eq_true rfl) dX10_init_9 (fun μ2 z3 H locs h hM hS hg hz => ?_)
  refine W.cs (cells' := 44) (slots' := 294) rfl rfl ?_
  obtain ⟨k4, h⟩ := h
  refine mz_putFr (x := (some z)) S hG hM hS cf_9 fd_288 tw_343 dX10_init_12 (by rw [hnm]; rfl) k4 rfl rfl (fun H locs hM hS hz9 => ?_)
  have hz := hz9.trans hz
  refine lv_aload_n S.1 S.2.1 dX10_init_15 rfl (lv_at hl 0 rfl) ?_
  refine mz_new S hG hM hS hz hg cf_7 nv_7 tw_44 tw_45 tw_2 (Nat.le_of_ble_eq_true rfl) (Nat.le_of_ble_eq_true rfl) dX10_init_16 (fun H hM hS hz => ?_)
  have hg := Nat.le_succ_of_le hg
  refine W.cs (cells' := 45) (slots' := 303) rfl rfl ?_
  refine lv_dup S.1 S.2.1 dX10_init_19 rfl ?_
  obtain ⟨k5, h⟩ := h
  refine mz_I S hG hM hS hz hg (As := []) (rest := [.ref z3, .ref o]) (c_X8_init h) yf_X8_init rfl tw_46 tw_47 ⟨Nat.le_of_ble_eq_true rfl, Nat.le_of_ble_eq_true rfl⟩ ⟨(Nat.le_of_ble_eq_true rfl), (Nat.le_of_ble_eq_true rfl)⟩ rfl hl.1 rfl (Nat.le_of_ble_eq_true rfl) dX10_init_20 (fun μ6 z7 H locs h hM hS hg hz => ?_)
  refine W.cs (cells' := 88) (slots' := 588) rfl rfl ?_
  obtain ⟨k8, h⟩ := h
  refine mz_putFr (x := (some z3)) S hG hM hS cf_9 fd_289 tw_344 dX10_init_23 (by rw [hnm]; rfl) k8 rfl rfl (fun H locs hM hS hz9 => ?_)
  have hz := hz9.trans hz
  refine lv_aload_n S.1 S.2.1 dX10_init_26 rfl (lv_at hl 0 rfl) ?_
  refine mz_new S hG hM hS hz hg cf_7 nv_7 tw_44 tw_45 tw_2 (Nat.le_of_ble_eq_true rfl) (Nat.le_of_ble_eq_true rfl) dX10_init_27 (fun H hM hS hz => ?_)
  have hg := Nat.le_succ_of_le hg
  refine W.cs (cells' := 89) (slots' := 597) rfl rfl ?_
  refine lv_dup S.1 S.2.1 dX10_init_30 rfl ?_
  obtain ⟨k9, h⟩ := h
  refine mz_I S hG hM hS hz hg (As := []) (rest := [.ref z7, .ref o]) (c_X8_init h) yf_X8_init rfl tw_46 tw_47 ⟨Nat.le_of_ble_eq_true rfl, Nat.le_of_ble_eq_true rfl⟩ ⟨(Nat.le_of_ble_eq_true rfl), (Nat.le_of_ble_eq_true rfl)⟩ rfl hl.1 rfl (Nat.le_of_ble_eq_true rfl) dX10_init_31 (fun μ10 z11 H locs h hM hS hg hz => ?_)
  refine W.cs (cells' := 132) (slots' := 882) rfl rfl ?_
  obtain ⟨k12, h⟩ := h
  refine mz_putFr (x := (some z7)) S hG hM hS cf_9 fd_290 tw_345 dX10_init_34 (by rw [hnm]; rfl) k12 rfl rfl (fun H locs hM hS hz9 => ?_)
  have hz := hz9.trans hz
  refine lv_aload_n S.1 S.2.1 dX10_init_37 rfl (lv_at hl 0 rfl) ?_
  refine mz_new S hG hM hS hz hg cf_7 nv_7 tw_44 tw_45 tw_2 (Nat.le_of_ble_eq_true rfl) (Nat.le_of_ble_eq_true rfl) dX10_init_38 (fun H hM hS hz => ?_)
  have hg := Nat.le_succ_of_le hg
  refine W.cs (cells' := 133) (slots' := 891) rfl rfl ?_
  refine lv_dup S.1 S.2.1 dX10_init_41 rfl ?_
  obtain ⟨k13, h⟩ := h
  refine mz_I S hG hM hS hz hg (As := []) (rest := [.ref z11, .ref o]) (c_X8_init h) yf_X8_init rfl tw_46 tw_47 ⟨Nat.le_of_ble_eq_true rfl, Nat.le_of_ble_eq_true rfl⟩ ⟨(Nat.le_of_ble_eq_true rfl), (Nat.le_of_ble_eq_true rfl)⟩ rfl hl.1 rfl (Nat.le_of_ble_eq_true rfl) dX10_init_42 (fun μ14 z15 H locs h hM hS hg hz => ?_)
  refine W.cs (cells' := 176) (slots' := 1176) rfl rfl ?_
  obtain ⟨k16, h⟩ := h
  refine mz_putFr (x := (some z11)) S hG hM hS cf_9 fd_291 tw_346 dX10_init_45 (by rw [hnm]; rfl) k16 rfl rfl (fun H locs hM hS hz9 => ?_)
  have hz := hz9.trans hz
  refine lv_aload_n S.1 S.2.1 dX10_init_48 rfl (lv_at hl 0 rfl) ?_
  refine mz_new S hG hM hS hz hg cf_3 nv_3 tw_227 tw_228 tw_7 (Nat.le_of_ble_eq_true rfl) (Nat.le_of_ble_eq_true rfl) dX10_init_49 (fun H hM hS hz => ?_)
  have hg := Nat.le_succ_of_le hg
  refine W.cs (cells' := 177) (slots' := 1179) rfl rfl ?_
  refine lv_dup S.1 S.2.1 dX10_init_52 rfl ?_
  obtain ⟨k17, h⟩ := h
  refine mz_I S hG hM hS hz hg (As := []) (rest := [.ref z15, .ref o]) (c_X4_init h) yf_X4_init rfl tw_229 tw_230 ⟨Nat.le_of_ble_eq_true rfl, Nat.le_of_ble_eq_true rfl⟩ ⟨(Nat.le_of_ble_eq_true rfl), (Nat.le_of_ble_eq_true rfl)⟩ rfl hl.1 rfl (Nat.le_of_ble_eq_true rfl) dX10_init_53 (fun μ18 z19 H locs h hM hS hg hz => ?_)
  refine W.cs (cells' := 574) (slots' := 3833) rfl rfl ?_
  obtain ⟨k20, h⟩ := h
  refine mz_putFr (x := (some z15)) S hG hM hS cf_9 fd_292 tw_347 dX10_init_56 (by rw [hnm]; rfl) k20 rfl rfl (fun H locs hM hS hz9 => ?_)
  have hz := hz9.trans hz
  refine lv_aload_n S.1 S.2.1 dX10_init_59 rfl (lv_at hl 0 rfl) ?_
  refine mz_new S hG hM hS hz hg cf_6 nv_6 tw_247 tw_248 tw_8 (Nat.le_of_ble_eq_true rfl) (Nat.le_of_ble_eq_true rfl) dX10_init_60 (fun H hM hS hz => ?_)
  have hg := Nat.le_succ_of_le hg
  refine W.cs (cells' := 575) (slots' := 3842) rfl rfl ?_
  refine lv_dup S.1 S.2.1 dX10_init_63 rfl ?_
  obtain ⟨k21, h⟩ := h
  refine mz_I S hG hM hS hz hg (As := []) (rest := [.ref z19, .ref o]) (c_X7_init h) yf_X7_init rfl tw_249 tw_250 ⟨Nat.le_of_ble_eq_true rfl, Nat.le_of_ble_eq_true rfl⟩ ⟨(Nat.le_of_ble_eq_true rfl), (Nat.le_of_ble_eq_true rfl)⟩ rfl hl.1 rfl (Nat.le_of_ble_eq_true rfl) dX10_init_64 (fun μ22 z23 H locs h hM hS hg hz => ?_)
  refine W.cs (cells' := 638) (slots' := 4145) rfl rfl ?_
  obtain ⟨k24, h⟩ := h
  refine mz_putFr (x := (some z19)) S hG hM hS cf_9 fd_293 tw_348 dX10_init_67 (by rw [hnm]; rfl) k24 rfl rfl (fun H locs hM hS hz9 => ?_)
  have hz := hz9.trans hz
  refine lv_aload_n S.1 S.2.1 dX10_init_70 rfl (lv_at hl 0 rfl) ?_
  refine mz_new S hG hM hS hz hg cf_0 nv_0 tw_311 tw_312 tw_13 (Nat.le_of_ble_eq_true rfl) (Nat.le_of_ble_eq_true rfl) dX10_init_71 (fun H hM hS hz => ?_)
  have hg := Nat.le_succ_of_le hg
  refine W.cs (cells' := 639) (slots' := 4149) rfl rfl ?_
  refine lv_dup S.1 S.2.1 dX10_init_74 rfl ?_
  obtain ⟨k25, h⟩ := h
  refine mz_I S hG hM hS hz hg (As := []) (rest := [.ref z23, .ref o]) (c_J4_init_da8c8 h) yf_J4_init_da8c8 rfl tw_313 tw_314 ⟨Nat.le_of_ble_eq_true rfl, Nat.le_of_ble_eq_true rfl⟩ ⟨(Nat.le_of_ble_eq_true rfl), (Nat.le_of_ble_eq_true rfl)⟩ rfl hl.1 rfl (Nat.le_of_ble_eq_true rfl) dX10_init_75 (fun μ26 z27 H locs h hM hS hg hz => ?_)
  refine W.cs (cells' := 640) (slots' := 4165) rfl rfl ?_
  obtain ⟨k28, h⟩ := h
  refine mz_putFr (x := (some z23)) S hG hM hS cf_9 fd_294 tw_349 dX10_init_78 (by rw [hnm]; rfl) k28 rfl rfl (fun H locs hM hS hz9 => ?_)
  have hz := hz9.trans hz
  refine lv_aload_n S.1 S.2.1 dX10_init_81 rfl (lv_at hl 0 rfl) ?_
  refine lv_iconst (v := (nI 0)) S.1 S.2.1 dX10_init_82 (by decide) ?_
  obtain ⟨k29, h⟩ := h
  refine mz_puti S hG hM hS cf_9 fd_295 tw_350 dX10_init_83 k29 rfl rfl (fun H locs hM hS hz9 => ?_)
  have hz := hz9.trans hz
  refine lv_aload_n S.1 S.2.1 dX10_init_86 rfl (lv_at hl 0 rfl) ?_
  refine lv_iconst (v := (-1)) S.1 S.2.1 dX10_init_87 (by decide) ?_
  obtain ⟨k30, h⟩ := h
  refine mz_puti S hG hM hS cf_9 fd_296 tw_351 dX10_init_88 k30 rfl rfl (fun H locs hM hS hz9 => ?_)
  have hz := hz9.trans hz
  refine lv_aload_n S.1 S.2.1 dX10_init_91 rfl (lv_at hl 0 rfl) ?_
  refine lv_iconst (v := (-1)) S.1 S.2.1 dX10_init_92 (by decide) ?_
  obtain ⟨k31, h⟩ := h
  refine mz_puti S hG hM hS cf_9 fd_297 tw_352 dX10_init_93 k31 rfl rfl (fun H locs hM hS hz9 => ?_)
  have hz := hz9.trans hz
  exact mz_zret S hr hlk hM hS hz hg (Nat.le_of_ble_eq_true rfl) (Nat.le_of_ble_eq_true rfl) dX10_init_96 h
set_option maxRecDepth 100000 in
set_option maxHeartbeats 4000000 in
theorem c_X10_settle {l : Launch} {G : mgT} {μ : mmT} {o : Nat} {x1 : Int32} {Q : Int32 → mmT → Prop} {X : String → mmT → Prop} (hl0 : l.stackTraces = false) (h : w_X10_settle G μ o x1 Q X) : MX G l yX10_settle cX10_settle 2 (some .int) { frames := 6, cells := 1, slots := 6, locals := 124 } [.ref o, .int x1] μ (pI Q) X := by
  refine mz_MX (by decide +kernel) (Nat.le_of_ble_eq_true rfl) (fun p e s m args below meth c S hG hr hlk hnm hex => ?_)
  intro H locs ls hM hS hl
  have hl : lv_has ls 2 [(0, .ref o), (1, .int x1)] := hl
  unfold w_X10_settle at h
  refine lv_iload_n S.1 S.2.1 dX10_settle_0 rfl (lv_at hl 1 rfl) ?_
  refine lv_iconst (v := (-1)) S.1 S.2.1 dX10_settle_1 (by decide) ?_
  refine lv_icmp_ne (tgt := 15) S.1 S.2.1 dX10_settle_2 (by decide) (fun c1 => ?_) (fun c1 => ?_)
  · have h := h.1 c1
    refine lv_iload_n S.1 S.2.1 dX10_settle_15 rfl (lv_at hl 1 rfl) ?_
    refine lv_bipush (v := (-2)) S.1 S.2.1 dX10_settle_16 (by decide) ?_
    refine lv_icmp_ne (tgt := 31) S.1 S.2.1 dX10_settle_18 (by decide) (fun c2 => ?_) (fun c2 => ?_)
    · have h := h.1 c2
      refine lv_iload_n S.1 S.2.1 dX10_settle_31 rfl (lv_at hl 1 rfl) ?_
      refine lv_bipush (v := (-3)) S.1 S.2.1 dX10_settle_32 (by decide) ?_
      refine lv_icmp_ne (tgt := 47) S.1 S.2.1 dX10_settle_34 (by decide) (fun c3 => ?_) (fun c3 => ?_)
      · have h := h.1 c3
        refine lv_iload_n S.1 S.2.1 dX10_settle_47 rfl (lv_at hl 1 rfl) ?_
        refine lv_bipush (v := (-4)) S.1 S.2.1 dX10_settle_48 (by decide) ?_
        refine lv_icmp_ne (tgt := 63) S.1 S.2.1 dX10_settle_50 (by decide) (fun c4 => ?_) (fun c4 => ?_)
        · have h := h.1 c4
          refine lv_aload_n S.1 S.2.1 dX10_settle_63 rfl (lv_at hl 0 rfl) ?_
          obtain ⟨k5, h⟩ := h
          refine mz_getr S hG hM cf_9 fd_292 tw_347 dX10_settle_64 k5 ?_
          refine lv_aload_n S.1 S.2.1 dX10_settle_67 rfl (lv_at hl 0 rfl) ?_
          refine mz_getr S hG hM cf_9 fd_289 tw_344 dX10_settle_68 k5 ?_
          obtain ⟨a6, e7, h⟩ := h
          refine mz_o1 e7 ?_
          obtain ⟨k8, h⟩ := h
          refine mz_V S hG hM hS cf_3 k8 (As := [va_rf (mR μ 289 o)]) (rest := []) (c_X4_remember h) yf_X4_remember tw_684 tw_685 tw_686 ⟨Nat.le_of_ble_eq_true rfl, Nat.le_of_ble_eq_true rfl⟩ ⟨(Nat.le_of_ble_eq_true rfl), (Nat.le_of_ble_eq_true rfl)⟩ rfl hl.1 rfl (Nat.le_of_ble_eq_true rfl) dX10_settle_71 (fun v9 μ9 H locs hp hM hS => ?_)
          obtain ⟨rfl, h⟩ := hp
          refine W.cs (cells' := 0) (slots' := 0) rfl rfl ?_
          refine lv_iload_n S.1 S.2.1 dX10_settle_74 rfl (lv_at hl 1 rfl) ?_
          exact vx_ret (mz_iret S hr hlk hM hS rfl (Nat.le_of_ble_eq_true rfl) (Nat.le_of_ble_eq_true rfl) dX10_settle_75 ⟨_, rfl, h⟩)
        · have h := h.2 c4
          exact mz_throwN S hl0 hG hM hS hex hlk hl.1 xf_108_112 (j := 1) rfl dX10_settle_53 dX10_settle_56 dX10_settle_57 dX10_settle_59 dX10_settle_62 (Nat.le_of_ble_eq_true rfl) (Nat.le_of_ble_eq_true rfl) (Nat.le_of_ble_eq_true rfl) (Nat.le_of_ble_eq_true rfl) (Nat.le_of_ble_eq_true rfl) (Nat.le_of_ble_eq_true rfl) h
      · have h := h.2 c3
        exact mz_throw S hl0 hG hM hS hex hlk hl.1 xf_103_107 (j := 7) rfl dX10_settle_37 dX10_settle_40 dX10_settle_41 dX10_settle_43 dX10_settle_46 (Nat.le_of_ble_eq_true rfl) (Nat.le_of_ble_eq_true rfl) (Nat.le_of_ble_eq_true rfl) (Nat.le_of_ble_eq_true rfl) (Nat.le_of_ble_eq_true rfl) (Nat.le_of_ble_eq_true rfl) h
    · have h := h.2 c2
      exact mz_throw S hl0 hG hM hS hex hlk hl.1 xf_98_102 (j := 6) rfl dX10_settle_21 dX10_settle_24 dX10_settle_25 dX10_settle_27 dX10_settle_30 (Nat.le_of_ble_eq_true rfl) (Nat.le_of_ble_eq_true rfl) (Nat.le_of_ble_eq_true rfl) (Nat.le_of_ble_eq_true rfl) (Nat.le_of_ble_eq_true rfl) (Nat.le_of_ble_eq_true rfl) h
  · have h := h.2 c1
    exact mz_throw S hl0 hG hM hS hex hlk hl.1 xf_91_95 (j := 5) rfl dX10_settle_5 dX10_settle_8 dX10_settle_9 dX10_settle_11 dX10_settle_14 (Nat.le_of_ble_eq_true rfl) (Nat.le_of_ble_eq_true rfl) (Nat.le_of_ble_eq_true rfl) (Nat.le_of_ble_eq_true rfl) (Nat.le_of_ble_eq_true rfl) (Nat.le_of_ble_eq_true rfl) h
set_option maxRecDepth 100000 in
set_option maxHeartbeats 4000000 in
theorem c_X10_addNest {l : Launch} {G : mgT} {μ : mmT} {o : Nat} {x1 : Int32} {x2 : Int32} {Q : Int32 → mmT → Prop} {X : String → mmT → Prop} (hl0 : l.stackTraces = false) (h : w_X10_addNest G μ o x1 x2 Q X) : MX G l yX10_addNest cX10_addNest 3 (some .int) { frames := 7, cells := 1, slots := 6, locals := 145 } [.ref o, .int x1, .int x2] μ (pI Q) X := by
  refine mz_MX (by decide +kernel) (Nat.le_of_ble_eq_true rfl) (fun p e s m args below meth c S hG hr hlk hnm hex => ?_)
  intro H locs ls hM hS hl
  have hl : lv_has ls 3 [(0, .ref o), (1, .int x1), (2, .int x2)] := hl
  unfold w_X10_addNest at h
  refine lv_aload_n S.1 S.2.1 dX10_addNest_0 rfl (lv_at hl 0 rfl) ?_
  obtain ⟨k1, h⟩ := h
  refine mz_getr S hG hM cf_9 fd_289 tw_344 dX10_addNest_1 k1 ?_
  refine lv_aload_n S.1 S.2.1 dX10_addNest_4 rfl (lv_at hl 0 rfl) ?_
  refine mz_getr S hG hM cf_9 fd_288 tw_343 dX10_addNest_5 k1 ?_
  obtain ⟨a2, e3, h⟩ := h
  refine mz_o1 e3 ?_
  obtain ⟨k4, h⟩ := h
  refine mz_V S hG hM hS cf_7 k4 (As := [va_rf (mR μ 288 o)]) (rest := []) (c_X8_copyFrom h) yf_X8_copyFrom tw_539 tw_540 tw_541 ⟨Nat.le_of_ble_eq_true rfl, Nat.le_of_ble_eq_true rfl⟩ ⟨(Nat.le_of_ble_eq_true rfl), (Nat.le_of_ble_eq_true rfl)⟩ rfl hl.1 rfl (Nat.le_of_ble_eq_true rfl) dX10_addNest_8 (fun v9 μ5 H locs hp hM hS => ?_)
  obtain ⟨rfl, h⟩ := hp
  refine W.cs (cells' := 0) (slots' := 0) rfl rfl ?_
  refine lv_aload_n S.1 S.2.1 dX10_addNest_11 rfl (lv_at hl 0 rfl) ?_
  refine lv_aload_n S.1 S.2.1 dX10_addNest_12 rfl (lv_at hl 0 rfl) ?_
  obtain ⟨k6, h⟩ := h
  refine mz_getr S hG hM cf_9 fd_288 tw_343 dX10_addNest_13 k6 ?_
  refine lv_iload_n S.1 S.2.1 dX10_addNest_16 rfl (lv_at hl 1 rfl) ?_
  refine lv_iload_n S.1 S.2.1 dX10_addNest_17 rfl (lv_at hl 2 rfl) ?_
  obtain ⟨a7, e8, h⟩ := h
  refine mz_o2 e8 ?_
  obtain ⟨k9, h⟩ := h
  refine mz_V S hG hM hS cf_7 k9 (As := [.int x1, .int x2]) (rest := [.ref o]) (c_X8_openNest h) yf_X8_openNest tw_639 tw_640 tw_641 ⟨Nat.le_of_ble_eq_true rfl, Nat.le_of_ble_eq_true rfl⟩ ⟨(Nat.le_of_ble_eq_true rfl), (Nat.le_of_ble_eq_true rfl)⟩ rfl hl.1 rfl (Nat.le_of_ble_eq_true rfl) dX10_addNest_18 (fun v9 μ11 H locs hp hM hS => ?_)
  obtain ⟨u10, rfl, h⟩ := hp
  refine W.cs (cells' := 0) (slots' := 0) rfl rfl ?_
  obtain ⟨k12, h⟩ := h
  refine mz_VX S hG hM hS cf_9 k12 (As := [.int u10]) (rest := []) (c_X10_settle hl0 h) yf_X10_settle tw_647 tw_649 ts_11 ⟨Nat.le_of_ble_eq_true rfl, Nat.le_of_ble_eq_true rfl⟩ ⟨(Nat.le_of_ble_eq_true rfl), (Nat.le_of_ble_eq_true rfl)⟩ rfl hl.1 rfl (Nat.le_of_ble_eq_true rfl) dX10_addNest_21 (fun E ce q9 μ9 H locs hp hM hS hc9 hv9 hcl9 => ?_) (fun v9 μ14 H locs hp hM hS => ?_)
  · have h := hp
    exact mz_out hex hlk hM hS hc9 hv9 hcl9 (Nat.le_of_ble_eq_true rfl) (Nat.le_of_ble_eq_true rfl) h
  · obtain ⟨u13, rfl, h⟩ := hp
    refine W.cs (cells' := 1) (slots' := 6) rfl rfl ?_
    exact vx_ret (mz_iret S hr hlk hM hS rfl (Nat.le_of_ble_eq_true rfl) (Nat.le_of_ble_eq_true rfl) dX10_addNest_24 ⟨_, rfl, h⟩)
set_option maxRecDepth 100000 in
set_option maxHeartbeats 4000000 in
theorem c_X10_addCrow {l : Launch} {G : mgT} {μ : mmT} {o : Nat} {Q : Int32 → mmT → Prop} {X : String → mmT → Prop} (hl0 : l.stackTraces = false) (h : w_X10_addCrow G μ o Q X) : MX G l yX10_addCrow cX10_addCrow 1 (some .int) { frames := 7, cells := 1, slots := 6, locals := 145 } [.ref o] μ (pI Q) X := by
  refine mz_MX (by decide +kernel) (Nat.le_of_ble_eq_true rfl) (fun p e s m args below meth c S hG hr hlk hnm hex => ?_)
  intro H locs ls hM hS hl
  have hl : lv_has ls 1 [(0, .ref o)] := hl
  unfold w_X10_addCrow at h
  refine lv_aload_n S.1 S.2.1 dX10_addCrow_0 rfl (lv_at hl 0 rfl) ?_
  obtain ⟨k1, h⟩ := h
  refine mz_getr S hG hM cf_9 fd_289 tw_344 dX10_addCrow_1 k1 ?_
  refine lv_aload_n S.1 S.2.1 dX10_addCrow_4 rfl (lv_at hl 0 rfl) ?_
  refine mz_getr S hG hM cf_9 fd_288 tw_343 dX10_addCrow_5 k1 ?_
  obtain ⟨a2, e3, h⟩ := h
  refine mz_o1 e3 ?_
  obtain ⟨k4, h⟩ := h
  refine mz_V S hG hM hS cf_7 k4 (As := [va_rf (mR μ 288 o)]) (rest := []) (c_X8_copyFrom h) yf_X8_copyFrom tw_539 tw_540 tw_541 ⟨Nat.le_of_ble_eq_true rfl, Nat.le_of_ble_eq_true rfl⟩ ⟨(Nat.le_of_ble_eq_true rfl), (Nat.le_of_ble_eq_true rfl)⟩ rfl hl.1 rfl (Nat.le_of_ble_eq_true rfl) dX10_addCrow_8 (fun v9 μ5 H locs hp hM hS => ?_)
  obtain ⟨rfl, h⟩ := hp
  refine W.cs (cells' := 0) (slots' := 0) rfl rfl ?_
  refine lv_aload_n S.1 S.2.1 dX10_addCrow_11 rfl (lv_at hl 0 rfl) ?_
  refine lv_aload_n S.1 S.2.1 dX10_addCrow_12 rfl (lv_at hl 0 rfl) ?_
  obtain ⟨k6, h⟩ := h
  refine mz_getr S hG hM cf_9 fd_288 tw_343 dX10_addCrow_13 k6 ?_
  obtain ⟨a7, e8, h⟩ := h
  refine mz_o0 e8 ?_
  obtain ⟨k9, h⟩ := h
  refine mz_V S hG hM hS cf_7 k9 (As := []) (rest := [.ref o]) (c_X8_hireCrow h) yf_X8_hireCrow tw_696 tw_697 tw_698 ⟨Nat.le_of_ble_eq_true rfl, Nat.le_of_ble_eq_true rfl⟩ ⟨(Nat.le_of_ble_eq_true rfl), (Nat.le_of_ble_eq_true rfl)⟩ rfl hl.1 rfl (Nat.le_of_ble_eq_true rfl) dX10_addCrow_16 (fun v9 μ11 H locs hp hM hS => ?_)
  obtain ⟨u10, rfl, h⟩ := hp
  refine W.cs (cells' := 0) (slots' := 0) rfl rfl ?_
  obtain ⟨k12, h⟩ := h
  refine mz_VX S hG hM hS cf_9 k12 (As := [.int u10]) (rest := []) (c_X10_settle hl0 h) yf_X10_settle tw_647 tw_649 ts_11 ⟨Nat.le_of_ble_eq_true rfl, Nat.le_of_ble_eq_true rfl⟩ ⟨(Nat.le_of_ble_eq_true rfl), (Nat.le_of_ble_eq_true rfl)⟩ rfl hl.1 rfl (Nat.le_of_ble_eq_true rfl) dX10_addCrow_19 (fun E ce q9 μ9 H locs hp hM hS hc9 hv9 hcl9 => ?_) (fun v9 μ14 H locs hp hM hS => ?_)
  · have h := hp
    exact mz_out hex hlk hM hS hc9 hv9 hcl9 (Nat.le_of_ble_eq_true rfl) (Nat.le_of_ble_eq_true rfl) h
  · obtain ⟨u13, rfl, h⟩ := hp
    refine W.cs (cells' := 1) (slots' := 6) rfl rfl ?_
    exact vx_ret (mz_iret S hr hlk hM hS rfl (Nat.le_of_ble_eq_true rfl) (Nat.le_of_ble_eq_true rfl) dX10_addCrow_22 ⟨_, rfl, h⟩)
set_option maxRecDepth 100000 in
set_option maxHeartbeats 4000000 in
theorem c_X10_publish {l : Launch} {G : mgT} {μ : mmT} {o : Nat} {x1 : Int32} {x2 : Int32} {Q : Int32 → mmT → Prop} {X : String → mmT → Prop} (hl0 : l.stackTraces = false) (h : w_X10_publish G μ o x1 x2 Q X) : MX G l yX10_publish cX10_publish 3 (some .int) { frames := 7, cells := 1, slots := 6, locals := 145 } [.ref o, .int x1, .int x2] μ (pI Q) X := by
  refine mz_MX (by decide +kernel) (Nat.le_of_ble_eq_true rfl) (fun p e s m args below meth c S hG hr hlk hnm hex => ?_)
  intro H locs ls hM hS hl
  have hl : lv_has ls 3 [(0, .ref o), (1, .int x1), (2, .int x2)] := hl
  unfold w_X10_publish at h
  refine lv_aload_n S.1 S.2.1 dX10_publish_0 rfl (lv_at hl 0 rfl) ?_
  obtain ⟨k1, h⟩ := h
  refine mz_getr S hG hM cf_9 fd_289 tw_344 dX10_publish_1 k1 ?_
  refine lv_aload_n S.1 S.2.1 dX10_publish_4 rfl (lv_at hl 0 rfl) ?_
  refine mz_getr S hG hM cf_9 fd_288 tw_343 dX10_publish_5 k1 ?_
  obtain ⟨a2, e3, h⟩ := h
  refine mz_o1 e3 ?_
  obtain ⟨k4, h⟩ := h
  refine mz_V S hG hM hS cf_7 k4 (As := [va_rf (mR μ 288 o)]) (rest := []) (c_X8_copyFrom h) yf_X8_copyFrom tw_539 tw_540 tw_541 ⟨Nat.le_of_ble_eq_true rfl, Nat.le_of_ble_eq_true rfl⟩ ⟨(Nat.le_of_ble_eq_true rfl), (Nat.le_of_ble_eq_true rfl)⟩ rfl hl.1 rfl (Nat.le_of_ble_eq_true rfl) dX10_publish_8 (fun v9 μ5 H locs hp hM hS => ?_)
  obtain ⟨rfl, h⟩ := hp
  refine W.cs (cells' := 0) (slots' := 0) rfl rfl ?_
  refine lv_aload_n S.1 S.2.1 dX10_publish_11 rfl (lv_at hl 0 rfl) ?_
  refine lv_aload_n S.1 S.2.1 dX10_publish_12 rfl (lv_at hl 0 rfl) ?_
  obtain ⟨k6, h⟩ := h
  refine mz_getr S hG hM cf_9 fd_288 tw_343 dX10_publish_13 k6 ?_
  refine lv_iload_n S.1 S.2.1 dX10_publish_16 rfl (lv_at hl 1 rfl) ?_
  refine lv_iload_n S.1 S.2.1 dX10_publish_17 rfl (lv_at hl 2 rfl) ?_
  obtain ⟨a7, e8, h⟩ := h
  refine mz_o2 e8 ?_
  obtain ⟨k9, h⟩ := h
  refine mz_V S hG hM hS cf_7 k9 (As := [.int x1, .int x2]) (rest := [.ref o]) (c_X8_post h) yf_X8_post tw_739 tw_740 tw_741 ⟨Nat.le_of_ble_eq_true rfl, Nat.le_of_ble_eq_true rfl⟩ ⟨(Nat.le_of_ble_eq_true rfl), (Nat.le_of_ble_eq_true rfl)⟩ rfl hl.1 rfl (Nat.le_of_ble_eq_true rfl) dX10_publish_18 (fun v9 μ11 H locs hp hM hS => ?_)
  obtain ⟨u10, rfl, h⟩ := hp
  refine W.cs (cells' := 0) (slots' := 0) rfl rfl ?_
  obtain ⟨k12, h⟩ := h
  refine mz_VX S hG hM hS cf_9 k12 (As := [.int u10]) (rest := []) (c_X10_settle hl0 h) yf_X10_settle tw_647 tw_649 ts_11 ⟨Nat.le_of_ble_eq_true rfl, Nat.le_of_ble_eq_true rfl⟩ ⟨(Nat.le_of_ble_eq_true rfl), (Nat.le_of_ble_eq_true rfl)⟩ rfl hl.1 rfl (Nat.le_of_ble_eq_true rfl) dX10_publish_21 (fun E ce q9 μ9 H locs hp hM hS hc9 hv9 hcl9 => ?_) (fun v9 μ14 H locs hp hM hS => ?_)
  · have h := hp
    exact mz_out hex hlk hM hS hc9 hv9 hcl9 (Nat.le_of_ble_eq_true rfl) (Nat.le_of_ble_eq_true rfl) h
  · obtain ⟨u13, rfl, h⟩ := hp
    refine W.cs (cells' := 1) (slots' := 6) rfl rfl ?_
    exact vx_ret (mz_iret S hr hlk hM hS rfl (Nat.le_of_ble_eq_true rfl) (Nat.le_of_ble_eq_true rfl) dX10_publish_24 ⟨_, rfl, h⟩)
set_option maxRecDepth 100000 in
set_option maxHeartbeats 4000000 in
theorem c_X10_read {l : Launch} {G : mgT} {μ : mmT} {o : Nat} {x1 : Int32} {Q : Int32 → mmT → Prop} {X : String → mmT → Prop} (hl0 : l.stackTraces = false) (h : w_X10_read G μ o x1 Q X) : MX G l yX10_read cX10_read 2 (some .int) { frames := 7, cells := 1, slots := 6, locals := 145 } [.ref o, .int x1] μ (pI Q) X := by
  refine mz_MX (by decide +kernel) (Nat.le_of_ble_eq_true rfl) (fun p e s m args below meth c S hG hr hlk hnm hex => ?_)
  intro H locs ls hM hS hl
  have hl : lv_has ls 2 [(0, .ref o), (1, .int x1)] := hl
  unfold w_X10_read at h
  refine lv_aload_n S.1 S.2.1 dX10_read_0 rfl (lv_at hl 0 rfl) ?_
  obtain ⟨k1, h⟩ := h
  refine mz_getr S hG hM cf_9 fd_289 tw_344 dX10_read_1 k1 ?_
  refine lv_aload_n S.1 S.2.1 dX10_read_4 rfl (lv_at hl 0 rfl) ?_
  refine mz_getr S hG hM cf_9 fd_288 tw_343 dX10_read_5 k1 ?_
  obtain ⟨a2, e3, h⟩ := h
  refine mz_o1 e3 ?_
  obtain ⟨k4, h⟩ := h
  refine mz_V S hG hM hS cf_7 k4 (As := [va_rf (mR μ 288 o)]) (rest := []) (c_X8_copyFrom h) yf_X8_copyFrom tw_539 tw_540 tw_541 ⟨Nat.le_of_ble_eq_true rfl, Nat.le_of_ble_eq_true rfl⟩ ⟨(Nat.le_of_ble_eq_true rfl), (Nat.le_of_ble_eq_true rfl)⟩ rfl hl.1 rfl (Nat.le_of_ble_eq_true rfl) dX10_read_8 (fun v9 μ5 H locs hp hM hS => ?_)
  obtain ⟨rfl, h⟩ := hp
  refine W.cs (cells' := 0) (slots' := 0) rfl rfl ?_
  refine lv_aload_n S.1 S.2.1 dX10_read_11 rfl (lv_at hl 0 rfl) ?_
  refine lv_aload_n S.1 S.2.1 dX10_read_12 rfl (lv_at hl 0 rfl) ?_
  obtain ⟨k6, h⟩ := h
  refine mz_getr S hG hM cf_9 fd_288 tw_343 dX10_read_13 k6 ?_
  refine lv_iload_n S.1 S.2.1 dX10_read_16 rfl (lv_at hl 1 rfl) ?_
  obtain ⟨a7, e8, h⟩ := h
  refine mz_o1 e8 ?_
  obtain ⟨k9, h⟩ := h
  refine mz_V S hG hM hS cf_7 k9 (As := [.int x1]) (rest := [.ref o]) (c_X8_handOver h) yf_X8_handOver tw_754 tw_755 tw_756 ⟨Nat.le_of_ble_eq_true rfl, Nat.le_of_ble_eq_true rfl⟩ ⟨(Nat.le_of_ble_eq_true rfl), (Nat.le_of_ble_eq_true rfl)⟩ rfl hl.1 rfl (Nat.le_of_ble_eq_true rfl) dX10_read_17 (fun v9 μ11 H locs hp hM hS => ?_)
  obtain ⟨u10, rfl, h⟩ := hp
  refine W.cs (cells' := 0) (slots' := 0) rfl rfl ?_
  obtain ⟨k12, h⟩ := h
  refine mz_VX S hG hM hS cf_9 k12 (As := [.int u10]) (rest := []) (c_X10_settle hl0 h) yf_X10_settle tw_647 tw_649 ts_11 ⟨Nat.le_of_ble_eq_true rfl, Nat.le_of_ble_eq_true rfl⟩ ⟨(Nat.le_of_ble_eq_true rfl), (Nat.le_of_ble_eq_true rfl)⟩ rfl hl.1 rfl (Nat.le_of_ble_eq_true rfl) dX10_read_20 (fun E ce q9 μ9 H locs hp hM hS hc9 hv9 hcl9 => ?_) (fun v9 μ14 H locs hp hM hS => ?_)
  · have h := hp
    exact mz_out hex hlk hM hS hc9 hv9 hcl9 (Nat.le_of_ble_eq_true rfl) (Nat.le_of_ble_eq_true rfl) h
  · obtain ⟨u13, rfl, h⟩ := hp
    refine W.cs (cells' := 1) (slots' := 6) rfl rfl ?_
    exact vx_ret (mz_iret S hr hlk hM hS rfl (Nat.le_of_ble_eq_true rfl) (Nat.le_of_ble_eq_true rfl) dX10_read_23 ⟨_, rfl, h⟩)
set_option maxRecDepth 100000 in
set_option maxHeartbeats 4000000 in
theorem c_X10_cancel {l : Launch} {G : mgT} {μ : mmT} {o : Nat} {x1 : Int32} {Q : Int32 → mmT → Prop} {X : String → mmT → Prop} (hl0 : l.stackTraces = false) (h : w_X10_cancel G μ o x1 Q X) : MX G l yX10_cancel cX10_cancel 2 (some .int) { frames := 7, cells := 1, slots := 6, locals := 145 } [.ref o, .int x1] μ (pI Q) X := by
  refine mz_MX (by decide +kernel) (Nat.le_of_ble_eq_true rfl) (fun p e s m args below meth c S hG hr hlk hnm hex => ?_)
  intro H locs ls hM hS hl
  have hl : lv_has ls 2 [(0, .ref o), (1, .int x1)] := hl
  unfold w_X10_cancel at h
  refine lv_aload_n S.1 S.2.1 dX10_cancel_0 rfl (lv_at hl 0 rfl) ?_
  obtain ⟨k1, h⟩ := h
  refine mz_getr S hG hM cf_9 fd_289 tw_344 dX10_cancel_1 k1 ?_
  refine lv_aload_n S.1 S.2.1 dX10_cancel_4 rfl (lv_at hl 0 rfl) ?_
  refine mz_getr S hG hM cf_9 fd_288 tw_343 dX10_cancel_5 k1 ?_
  obtain ⟨a2, e3, h⟩ := h
  refine mz_o1 e3 ?_
  obtain ⟨k4, h⟩ := h
  refine mz_V S hG hM hS cf_7 k4 (As := [va_rf (mR μ 288 o)]) (rest := []) (c_X8_copyFrom h) yf_X8_copyFrom tw_539 tw_540 tw_541 ⟨Nat.le_of_ble_eq_true rfl, Nat.le_of_ble_eq_true rfl⟩ ⟨(Nat.le_of_ble_eq_true rfl), (Nat.le_of_ble_eq_true rfl)⟩ rfl hl.1 rfl (Nat.le_of_ble_eq_true rfl) dX10_cancel_8 (fun v9 μ5 H locs hp hM hS => ?_)
  obtain ⟨rfl, h⟩ := hp
  refine W.cs (cells' := 0) (slots' := 0) rfl rfl ?_
  refine lv_aload_n S.1 S.2.1 dX10_cancel_11 rfl (lv_at hl 0 rfl) ?_
  refine lv_aload_n S.1 S.2.1 dX10_cancel_12 rfl (lv_at hl 0 rfl) ?_
  obtain ⟨k6, h⟩ := h
  refine mz_getr S hG hM cf_9 fd_288 tw_343 dX10_cancel_13 k6 ?_
  refine lv_iload_n S.1 S.2.1 dX10_cancel_16 rfl (lv_at hl 1 rfl) ?_
  obtain ⟨a7, e8, h⟩ := h
  refine mz_o1 e8 ?_
  obtain ⟨k9, h⟩ := h
  refine mz_V S hG hM hS cf_7 k9 (As := [.int x1]) (rest := [.ref o]) (c_X8_withdraw h) yf_X8_withdraw tw_780 tw_781 tw_782 ⟨Nat.le_of_ble_eq_true rfl, Nat.le_of_ble_eq_true rfl⟩ ⟨(Nat.le_of_ble_eq_true rfl), (Nat.le_of_ble_eq_true rfl)⟩ rfl hl.1 rfl (Nat.le_of_ble_eq_true rfl) dX10_cancel_17 (fun v9 μ11 H locs hp hM hS => ?_)
  obtain ⟨u10, rfl, h⟩ := hp
  refine W.cs (cells' := 0) (slots' := 0) rfl rfl ?_
  obtain ⟨k12, h⟩ := h
  refine mz_VX S hG hM hS cf_9 k12 (As := [.int u10]) (rest := []) (c_X10_settle hl0 h) yf_X10_settle tw_647 tw_649 ts_11 ⟨Nat.le_of_ble_eq_true rfl, Nat.le_of_ble_eq_true rfl⟩ ⟨(Nat.le_of_ble_eq_true rfl), (Nat.le_of_ble_eq_true rfl)⟩ rfl hl.1 rfl (Nat.le_of_ble_eq_true rfl) dX10_cancel_20 (fun E ce q9 μ9 H locs hp hM hS hc9 hv9 hcl9 => ?_) (fun v9 μ14 H locs hp hM hS => ?_)
  · have h := hp
    exact mz_out hex hlk hM hS hc9 hv9 hcl9 (Nat.le_of_ble_eq_true rfl) (Nat.le_of_ble_eq_true rfl) h
  · obtain ⟨u13, rfl, h⟩ := hp
    refine W.cs (cells' := 1) (slots' := 6) rfl rfl ?_
    exact vx_ret (mz_iret S hr hlk hM hS rfl (Nat.le_of_ble_eq_true rfl) (Nat.le_of_ble_eq_true rfl) dX10_cancel_23 ⟨_, rfl, h⟩)
set_option maxRecDepth 100000 in
set_option maxHeartbeats 4000000 in
theorem c_X10_setWind {l : Launch} {G : mgT} {μ : mmT} {o : Nat} {x1 : Int32} {Q : Int32 → mmT → Prop} {X : String → mmT → Prop} (hl0 : l.stackTraces = false) (h : w_X10_setWind G μ o x1 Q X) : MX G l yX10_setWind cX10_setWind 2 (some .int) { frames := 7, cells := 1, slots := 6, locals := 145 } [.ref o, .int x1] μ (pI Q) X := by
  refine mz_MX (by decide +kernel) (Nat.le_of_ble_eq_true rfl) (fun p e s m args below meth c S hG hr hlk hnm hex => ?_)
  intro H locs ls hM hS hl
  have hl : lv_has ls 2 [(0, .ref o), (1, .int x1)] := hl
  unfold w_X10_setWind at h
  refine lv_aload_n S.1 S.2.1 dX10_setWind_0 rfl (lv_at hl 0 rfl) ?_
  obtain ⟨k1, h⟩ := h
  refine mz_getr S hG hM cf_9 fd_289 tw_344 dX10_setWind_1 k1 ?_
  refine lv_aload_n S.1 S.2.1 dX10_setWind_4 rfl (lv_at hl 0 rfl) ?_
  refine mz_getr S hG hM cf_9 fd_288 tw_343 dX10_setWind_5 k1 ?_
  obtain ⟨a2, e3, h⟩ := h
  refine mz_o1 e3 ?_
  obtain ⟨k4, h⟩ := h
  refine mz_V S hG hM hS cf_7 k4 (As := [va_rf (mR μ 288 o)]) (rest := []) (c_X8_copyFrom h) yf_X8_copyFrom tw_539 tw_540 tw_541 ⟨Nat.le_of_ble_eq_true rfl, Nat.le_of_ble_eq_true rfl⟩ ⟨(Nat.le_of_ble_eq_true rfl), (Nat.le_of_ble_eq_true rfl)⟩ rfl hl.1 rfl (Nat.le_of_ble_eq_true rfl) dX10_setWind_8 (fun v9 μ5 H locs hp hM hS => ?_)
  obtain ⟨rfl, h⟩ := hp
  refine W.cs (cells' := 0) (slots' := 0) rfl rfl ?_
  refine lv_aload_n S.1 S.2.1 dX10_setWind_11 rfl (lv_at hl 0 rfl) ?_
  refine lv_aload_n S.1 S.2.1 dX10_setWind_12 rfl (lv_at hl 0 rfl) ?_
  obtain ⟨k6, h⟩ := h
  refine mz_getr S hG hM cf_9 fd_288 tw_343 dX10_setWind_13 k6 ?_
  refine lv_iload_n S.1 S.2.1 dX10_setWind_16 rfl (lv_at hl 1 rfl) ?_
  obtain ⟨a7, e8, h⟩ := h
  refine mz_o1 e8 ?_
  obtain ⟨k9, h⟩ := h
  refine mz_V S hG hM hS cf_7 k9 (As := [.int x1]) (rest := [.ref o]) (c_X8_turnWind h) yf_X8_turnWind tw_707 tw_708 tw_709 ⟨Nat.le_of_ble_eq_true rfl, Nat.le_of_ble_eq_true rfl⟩ ⟨(Nat.le_of_ble_eq_true rfl), (Nat.le_of_ble_eq_true rfl)⟩ rfl hl.1 rfl (Nat.le_of_ble_eq_true rfl) dX10_setWind_17 (fun v9 μ11 H locs hp hM hS => ?_)
  obtain ⟨u10, rfl, h⟩ := hp
  refine W.cs (cells' := 0) (slots' := 0) rfl rfl ?_
  obtain ⟨k12, h⟩ := h
  refine mz_VX S hG hM hS cf_9 k12 (As := [.int u10]) (rest := []) (c_X10_settle hl0 h) yf_X10_settle tw_647 tw_649 ts_11 ⟨Nat.le_of_ble_eq_true rfl, Nat.le_of_ble_eq_true rfl⟩ ⟨(Nat.le_of_ble_eq_true rfl), (Nat.le_of_ble_eq_true rfl)⟩ rfl hl.1 rfl (Nat.le_of_ble_eq_true rfl) dX10_setWind_20 (fun E ce q9 μ9 H locs hp hM hS hc9 hv9 hcl9 => ?_) (fun v9 μ14 H locs hp hM hS => ?_)
  · have h := hp
    exact mz_out hex hlk hM hS hc9 hv9 hcl9 (Nat.le_of_ble_eq_true rfl) (Nat.le_of_ble_eq_true rfl) h
  · obtain ⟨u13, rfl, h⟩ := hp
    refine W.cs (cells' := 1) (slots' := 6) rfl rfl ?_
    exact vx_ret (mz_iret S hr hlk hM hS rfl (Nat.le_of_ble_eq_true rfl) (Nat.le_of_ble_eq_true rfl) dX10_setWind_23 ⟨_, rfl, h⟩)
set_option maxRecDepth 100000 in
set_option maxHeartbeats 4000000 in
theorem c_X10_forget {l : Launch} {G : mgT} {μ : mmT} {o : Nat} {x1 : Int32} {Q : Int32 → mmT → Prop} {X : String → mmT → Prop} (hl0 : l.stackTraces = false) (h : w_X10_forget G μ o x1 Q X) : MX G l yX10_forget cX10_forget 2 (some .int) { frames := 7, cells := 1, slots := 6, locals := 145 } [.ref o, .int x1] μ (pI Q) X := by
  refine mz_MX (by decide +kernel) (Nat.le_of_ble_eq_true rfl) (fun p e s m args below meth c S hG hr hlk hnm hex => ?_)
  intro H locs ls hM hS hl
  have hl : lv_has ls 2 [(0, .ref o), (1, .int x1)] := hl
  unfold w_X10_forget at h
  refine lv_aload_n S.1 S.2.1 dX10_forget_0 rfl (lv_at hl 0 rfl) ?_
  obtain ⟨k1, h⟩ := h
  refine mz_getr S hG hM cf_9 fd_289 tw_344 dX10_forget_1 k1 ?_
  refine lv_aload_n S.1 S.2.1 dX10_forget_4 rfl (lv_at hl 0 rfl) ?_
  refine mz_getr S hG hM cf_9 fd_288 tw_343 dX10_forget_5 k1 ?_
  obtain ⟨a2, e3, h⟩ := h
  refine mz_o1 e3 ?_
  obtain ⟨k4, h⟩ := h
  refine mz_V S hG hM hS cf_7 k4 (As := [va_rf (mR μ 288 o)]) (rest := []) (c_X8_copyFrom h) yf_X8_copyFrom tw_539 tw_540 tw_541 ⟨Nat.le_of_ble_eq_true rfl, Nat.le_of_ble_eq_true rfl⟩ ⟨(Nat.le_of_ble_eq_true rfl), (Nat.le_of_ble_eq_true rfl)⟩ rfl hl.1 rfl (Nat.le_of_ble_eq_true rfl) dX10_forget_8 (fun v9 μ5 H locs hp hM hS => ?_)
  obtain ⟨rfl, h⟩ := hp
  refine W.cs (cells' := 0) (slots' := 0) rfl rfl ?_
  refine lv_aload_n S.1 S.2.1 dX10_forget_11 rfl (lv_at hl 0 rfl) ?_
  refine lv_aload_n S.1 S.2.1 dX10_forget_12 rfl (lv_at hl 0 rfl) ?_
  obtain ⟨k6, h⟩ := h
  refine mz_getr S hG hM cf_9 fd_288 tw_343 dX10_forget_13 k6 ?_
  refine lv_iload_n S.1 S.2.1 dX10_forget_16 rfl (lv_at hl 1 rfl) ?_
  obtain ⟨a7, e8, h⟩ := h
  refine mz_o1 e8 ?_
  obtain ⟨k9, h⟩ := h
  refine mz_V S hG hM hS cf_7 k9 (As := [.int x1]) (rest := [.ref o]) (c_X8_clearKeys h) yf_X8_clearKeys tw_769 tw_770 tw_771 ⟨Nat.le_of_ble_eq_true rfl, Nat.le_of_ble_eq_true rfl⟩ ⟨(Nat.le_of_ble_eq_true rfl), (Nat.le_of_ble_eq_true rfl)⟩ rfl hl.1 rfl (Nat.le_of_ble_eq_true rfl) dX10_forget_17 (fun v9 μ11 H locs hp hM hS => ?_)
  obtain ⟨u10, rfl, h⟩ := hp
  refine W.cs (cells' := 0) (slots' := 0) rfl rfl ?_
  obtain ⟨k12, h⟩ := h
  refine mz_VX S hG hM hS cf_9 k12 (As := [.int u10]) (rest := []) (c_X10_settle hl0 h) yf_X10_settle tw_647 tw_649 ts_11 ⟨Nat.le_of_ble_eq_true rfl, Nat.le_of_ble_eq_true rfl⟩ ⟨(Nat.le_of_ble_eq_true rfl), (Nat.le_of_ble_eq_true rfl)⟩ rfl hl.1 rfl (Nat.le_of_ble_eq_true rfl) dX10_forget_20 (fun E ce q9 μ9 H locs hp hM hS hc9 hv9 hcl9 => ?_) (fun v9 μ14 H locs hp hM hS => ?_)
  · have h := hp
    exact mz_out hex hlk hM hS hc9 hv9 hcl9 (Nat.le_of_ble_eq_true rfl) (Nat.le_of_ble_eq_true rfl) h
  · obtain ⟨u13, rfl, h⟩ := hp
    refine W.cs (cells' := 1) (slots' := 6) rfl rfl ?_
    exact vx_ret (mz_iret S hr hlk hM hS rfl (Nat.le_of_ble_eq_true rfl) (Nat.le_of_ble_eq_true rfl) dX10_forget_23 ⟨_, rfl, h⟩)
set_option maxRecDepth 100000 in
set_option maxHeartbeats 4000000 in
theorem c_X10_advance {l : Launch} {G : mgT} {μ : mmT} {o : Nat} {x1 : Int32} {Q : Int32 → mmT → Prop} {X : String → mmT → Prop} (hl0 : l.stackTraces = false) (h : w_X10_advance G μ o x1 Q X) : MX G l yX10_advance cX10_advance 2 (some .int) { frames := 7, cells := 1, slots := 6, locals := 172 } [.ref o, .int x1] μ (pI Q) X := by
  refine mz_MX (by decide +kernel) (Nat.le_of_ble_eq_true rfl) (fun p e s m args below meth c S hG hr hlk hnm hex => ?_)
  intro H locs ls hM hS hl
  have hl : lv_has ls 2 [(0, .ref o), (1, .int x1)] := hl
  unfold w_X10_advance at h
  refine lv_aload_n S.1 S.2.1 dX10_advance_0 rfl (lv_at hl 0 rfl) ?_
  obtain ⟨k1, h⟩ := h
  refine mz_getr S hG hM cf_9 fd_289 tw_344 dX10_advance_1 k1 ?_
  refine lv_aload_n S.1 S.2.1 dX10_advance_4 rfl (lv_at hl 0 rfl) ?_
  refine mz_getr S hG hM cf_9 fd_288 tw_343 dX10_advance_5 k1 ?_
  obtain ⟨a2, e3, h⟩ := h
  refine mz_o1 e3 ?_
  obtain ⟨k4, h⟩ := h
  refine mz_V S hG hM hS cf_7 k4 (As := [va_rf (mR μ 288 o)]) (rest := []) (c_X8_copyFrom h) yf_X8_copyFrom tw_539 tw_540 tw_541 ⟨Nat.le_of_ble_eq_true rfl, Nat.le_of_ble_eq_true rfl⟩ ⟨(Nat.le_of_ble_eq_true rfl), (Nat.le_of_ble_eq_true rfl)⟩ rfl hl.1 rfl (Nat.le_of_ble_eq_true rfl) dX10_advance_8 (fun v9 μ5 H locs hp hM hS => ?_)
  obtain ⟨rfl, h⟩ := hp
  refine W.cs (cells' := 0) (slots' := 0) rfl rfl ?_
  refine lv_aload_n S.1 S.2.1 dX10_advance_11 rfl (lv_at hl 0 rfl) ?_
  refine lv_aload_n S.1 S.2.1 dX10_advance_12 rfl (lv_at hl 0 rfl) ?_
  obtain ⟨k6, h⟩ := h
  refine mz_getr S hG hM cf_9 fd_288 tw_343 dX10_advance_13 k6 ?_
  refine lv_iload_n S.1 S.2.1 dX10_advance_16 rfl (lv_at hl 1 rfl) ?_
  obtain ⟨a7, e8, h⟩ := h
  refine mz_o1 e8 ?_
  obtain ⟨k9, h⟩ := h
  refine mz_V S hG hM hS cf_7 k9 (As := [.int x1]) (rest := [.ref o]) (c_X8_pass h) yf_X8_pass tw_562 tw_563 tw_564 ⟨Nat.le_of_ble_eq_true rfl, Nat.le_of_ble_eq_true rfl⟩ ⟨(Nat.le_of_ble_eq_true rfl), (Nat.le_of_ble_eq_true rfl)⟩ rfl hl.1 rfl (Nat.le_of_ble_eq_true rfl) dX10_advance_17 (fun v9 μ11 H locs hp hM hS => ?_)
  obtain ⟨u10, rfl, h⟩ := hp
  refine W.cs (cells' := 0) (slots' := 0) rfl rfl ?_
  obtain ⟨k12, h⟩ := h
  refine mz_VX S hG hM hS cf_9 k12 (As := [.int u10]) (rest := []) (c_X10_settle hl0 h) yf_X10_settle tw_647 tw_649 ts_11 ⟨Nat.le_of_ble_eq_true rfl, Nat.le_of_ble_eq_true rfl⟩ ⟨(Nat.le_of_ble_eq_true rfl), (Nat.le_of_ble_eq_true rfl)⟩ rfl hl.1 rfl (Nat.le_of_ble_eq_true rfl) dX10_advance_20 (fun E ce q9 μ9 H locs hp hM hS hc9 hv9 hcl9 => ?_) (fun v9 μ14 H locs hp hM hS => ?_)
  · have h := hp
    exact mz_out hex hlk hM hS hc9 hv9 hcl9 (Nat.le_of_ble_eq_true rfl) (Nat.le_of_ble_eq_true rfl) h
  · obtain ⟨u13, rfl, h⟩ := hp
    refine W.cs (cells' := 1) (slots' := 6) rfl rfl ?_
    exact vx_ret (mz_iret S hr hlk hM hS rfl (Nat.le_of_ble_eq_true rfl) (Nat.le_of_ble_eq_true rfl) dX10_advance_23 ⟨_, rfl, h⟩)
set_option maxRecDepth 100000 in
set_option maxHeartbeats 4000000 in
theorem c_X10_nestCount {l : Launch} {G : mgT} {μ : mmT} {o : Nat} {Q : Int32 → Prop} (h : w_X10_nestCount G μ o Q) : MC G l yX10_nestCount cX10_nestCount 1 (some .int) { frames := 0, cells := 0, slots := 0, locals := 0 } [.ref o] μ (pI (fun r μ' => μ' = μ ∧ Q r)) := by
  refine mz_MC (by decide +kernel) (Nat.le_of_ble_eq_true rfl) (fun p e s m args below meth c S hG hr hlk hnm => ?_)
  intro H locs ls hM hS hl
  have hl : lv_has ls 1 [(0, .ref o)] := hl
  unfold w_X10_nestCount at h
  refine lv_aload_n S.1 S.2.1 dX10_nestCount_0 rfl (lv_at hl 0 rfl) ?_
  obtain ⟨k1, h⟩ := h
  refine mz_getr S hG hM cf_9 fd_288 tw_343 dX10_nestCount_1 k1 ?_
  obtain ⟨a2, e3, h⟩ := h
  refine mz_o0 e3 ?_
  obtain ⟨k4, h⟩ := h
  refine mz_geti S hG hM cf_7 fd_228 tw_199 dX10_nestCount_4 k4 ?_
  exact mz_iret S hr hlk hM hS rfl (Nat.le_of_ble_eq_true rfl) (Nat.le_of_ble_eq_true rfl) dX10_nestCount_7 ⟨_, rfl, rfl, h⟩

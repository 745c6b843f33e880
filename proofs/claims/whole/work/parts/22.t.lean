set_option maxRecDepth 100000 in
set_option maxHeartbeats 4000000 in
theorem c_X10_existingNest {l : Launch} {G : mgT} {μ : mmT} {o : Nat} {x1 : Int32} {Q : Option Nat → Prop} {X : String → Prop} (hl0 : l.stackTraces = false) (h : w_X10_existingNest G μ o x1 Q X) : MX G l yX10_existingNest cX10_existingNest 3 (some (.object "CrowMail$Nest")) { frames := 6, cells := 1, slots := 6, locals := 100 } [.ref o, .int x1] μ (pR (fun r μ' => μ' = μ ∧ Q r)) (fun E μ' => μ' = μ ∧ X E) := by
  refine mz_MX (by decide +kernel) (Nat.le_of_ble_eq_true rfl) (fun p e s m args below meth c S hG hr hlk hnm hex => ?_)
  intro H locs ls hM hS hl
  have hl : lv_has ls 3 [(0, .ref o), (1, .int x1)] := hl
  unfold w_X10_existingNest at h
  refine lv_aload_n S.1 S.2.1 dX10_existingNest_0 rfl (lv_at hl 0 rfl) ?_
  obtain ⟨k1, h⟩ := h
  refine mz_getr S hG hM cf_9 fd_288 tw_347 dX10_existingNest_1 k1 ?_
  refine lv_iload_n S.1 S.2.1 dX10_existingNest_4 rfl (lv_at hl 1 rfl) ?_
  obtain ⟨a2, e3, h⟩ := h
  refine mz_o1 e3 ?_
  obtain ⟨k4, h⟩ := h
  refine mz_V S hG hM hS cf_7 k4 (As := [.int x1]) (rest := []) (c_X8_nestAt h) yf_X8_nestAt tw_1090 tw_954 tw_955 ⟨Nat.le_of_ble_eq_true rfl, Nat.le_of_ble_eq_true rfl⟩ ⟨(Nat.le_of_ble_eq_true rfl), (Nat.le_of_ble_eq_true rfl)⟩ rfl hl.1 rfl (Nat.le_of_ble_eq_true rfl) dX10_existingNest_5 (fun v9 μ9 H locs hp hM hS => ?_)
  obtain ⟨ru5, rfl, e9, h⟩ := hp
  rw [e9] at hM
  refine W.cs (cells' := 0) (slots' := 0) rfl rfl ?_
  refine mz_astore_n (x := ru5) (lv' := [(2, va_rf ru5), (0, .ref o), (1, .int x1)]) S.1 S.2.1 dX10_existingNest_8 rfl hl (by decide) rfl (fun ls hl => ?_)
  refine mz_aload_n (x := ru5) S.1 S.2.1 dX10_existingNest_9 rfl (lv_at hl 0 rfl) ?_
  refine mz_ifnonnull (tgt := 23) S.1 S.2.1 dX10_existingNest_10 (by decide) (fun a6 e7 => ?_) (fun e7 => ?_)
  · have h := h.2 a6 e7
    refine mz_aload_n (x := ru5) S.1 S.2.1 dX10_existingNest_23 rfl (lv_at hl 0 rfl) ?_
    exact vx_ret (mz_aret (x := ru5) S hr (by first | exact Or.inl ⟨_, rfl⟩ | exact Or.inr ⟨_, rfl⟩) hlk hM hS (Nat.le_of_ble_eq_true rfl) (Nat.le_of_ble_eq_true rfl) dX10_existingNest_24 ⟨_, rfl, rfl, h⟩)
  · have h := h.1 e7
    exact mz_throw S hl0 hG hM hS hex hlk hl.1 xf_103_107 (j := 8) rfl dX10_existingNest_13 dX10_existingNest_16 dX10_existingNest_17 dX10_existingNest_19 dX10_existingNest_22 (Nat.le_of_ble_eq_true rfl) (Nat.le_of_ble_eq_true rfl) (Nat.le_of_ble_eq_true rfl) (Nat.le_of_ble_eq_true rfl) (Nat.le_of_ble_eq_true rfl) (Nat.le_of_ble_eq_true rfl) ⟨rfl, h⟩
set_option maxRecDepth 100000 in
set_option maxHeartbeats 4000000 in
theorem c_X10_distance {l : Launch} {G : mgT} {μ : mmT} {o : Nat} {x1 : Int32} {Q : Int32 → Prop} {X : String → Prop} (hl0 : l.stackTraces = false) (h : w_X10_distance G μ o x1 Q X) : MX G l yX10_distance cX10_distance 2 (some .int) { frames := 7, cells := 1, slots := 6, locals := 122 } [.ref o, .int x1] μ (pI (fun r μ' => μ' = μ ∧ Q r)) (fun E μ' => μ' = μ ∧ X E) := by
  refine mz_MX (by decide +kernel) (Nat.le_of_ble_eq_true rfl) (fun p e s m args below meth c S hG hr hlk hnm hex => ?_)
  intro H locs ls hM hS hl
  have hl : lv_has ls 2 [(0, .ref o), (1, .int x1)] := hl
  unfold w_X10_distance at h
  refine lv_aload_n S.1 S.2.1 dX10_distance_0 rfl (lv_at hl 0 rfl) ?_
  refine lv_iload_n S.1 S.2.1 dX10_distance_1 rfl (lv_at hl 1 rfl) ?_
  obtain ⟨k1, h⟩ := h
  refine mz_VX S hG hM hS cf_9 k1 (As := [.int x1]) (rest := []) (c_X10_existingNest hl0 h) yf_X10_existingNest tw_1086 tw_1088 ts_10 ⟨Nat.le_of_ble_eq_true rfl, Nat.le_of_ble_eq_true rfl⟩ ⟨(Nat.le_of_ble_eq_true rfl), (Nat.le_of_ble_eq_true rfl)⟩ rfl hl.1 rfl (Nat.le_of_ble_eq_true rfl) dX10_distance_2 (fun E ce q9 μ9 H locs hp hM hS hc9 hv9 hcl9 => ?_) (fun v9 μ9 H locs hp hM hS => ?_)
  · obtain ⟨e9, h⟩ := hp
    rw [e9] at hM
    exact mz_out hex hlk hM hS hc9 hv9 hcl9 (Nat.le_of_ble_eq_true rfl) (Nat.le_of_ble_eq_true rfl) ⟨rfl, h⟩
  · obtain ⟨ru2, rfl, e9, h⟩ := hp
    rw [e9] at hM
    refine W.cs (cells' := 1) (slots' := 6) rfl rfl ?_
    obtain ⟨a3, e4, h⟩ := h
    refine mz_o0 e4 ?_
    obtain ⟨k5, h⟩ := h
    refine mz_geti S hG hM cf_5 fd_162 tw_108 dX10_distance_5 k5 ?_
    exact vx_ret (mz_iret S hr hlk hM hS rfl (Nat.le_of_ble_eq_true rfl) (Nat.le_of_ble_eq_true rfl) dX10_distance_8 ⟨_, rfl, rfl, h⟩)
set_option maxRecDepth 100000 in
set_option maxHeartbeats 4000000 in
theorem c_X10_loss {l : Launch} {G : mgT} {μ : mmT} {o : Nat} {x1 : Int32} {Q : Int32 → Prop} {X : String → Prop} (hl0 : l.stackTraces = false) (h : w_X10_loss G μ o x1 Q X) : MX G l yX10_loss cX10_loss 2 (some .int) { frames := 7, cells := 1, slots := 6, locals := 122 } [.ref o, .int x1] μ (pI (fun r μ' => μ' = μ ∧ Q r)) (fun E μ' => μ' = μ ∧ X E) := by
  refine mz_MX (by decide +kernel) (Nat.le_of_ble_eq_true rfl) (fun p e s m args below meth c S hG hr hlk hnm hex => ?_)
  intro H locs ls hM hS hl
  have hl : lv_has ls 2 [(0, .ref o), (1, .int x1)] := hl
  unfold w_X10_loss at h
  refine lv_aload_n S.1 S.2.1 dX10_loss_0 rfl (lv_at hl 0 rfl) ?_
  refine lv_iload_n S.1 S.2.1 dX10_loss_1 rfl (lv_at hl 1 rfl) ?_
  obtain ⟨k1, h⟩ := h
  refine mz_VX S hG hM hS cf_9 k1 (As := [.int x1]) (rest := []) (c_X10_existingNest hl0 h) yf_X10_existingNest tw_1086 tw_1088 ts_10 ⟨Nat.le_of_ble_eq_true rfl, Nat.le_of_ble_eq_true rfl⟩ ⟨(Nat.le_of_ble_eq_true rfl), (Nat.le_of_ble_eq_true rfl)⟩ rfl hl.1 rfl (Nat.le_of_ble_eq_true rfl) dX10_loss_2 (fun E ce q9 μ9 H locs hp hM hS hc9 hv9 hcl9 => ?_) (fun v9 μ9 H locs hp hM hS => ?_)
  · obtain ⟨e9, h⟩ := hp
    rw [e9] at hM
    exact mz_out hex hlk hM hS hc9 hv9 hcl9 (Nat.le_of_ble_eq_true rfl) (Nat.le_of_ble_eq_true rfl) ⟨rfl, h⟩
  · obtain ⟨ru2, rfl, e9, h⟩ := hp
    rw [e9] at hM
    refine W.cs (cells' := 1) (slots' := 6) rfl rfl ?_
    obtain ⟨a3, e4, h⟩ := h
    refine mz_o0 e4 ?_
    obtain ⟨k5, h⟩ := h
    refine mz_geti S hG hM cf_5 fd_163 tw_111 dX10_loss_5 k5 ?_
    exact vx_ret (mz_iret S hr hlk hM hS rfl (Nat.le_of_ble_eq_true rfl) (Nat.le_of_ble_eq_true rfl) dX10_loss_8 ⟨_, rfl, rfl, h⟩)
set_option maxRecDepth 100000 in
set_option maxHeartbeats 4000000 in
theorem c_X10_inboxSize {l : Launch} {G : mgT} {μ : mmT} {o : Nat} {x1 : Int32} {Q : Int32 → Prop} {X : String → Prop} (hl0 : l.stackTraces = false) (h : w_X10_inboxSize G μ o x1 Q X) : MX G l yX10_inboxSize cX10_inboxSize 2 (some .int) { frames := 7, cells := 1, slots := 6, locals := 122 } [.ref o, .int x1] μ (pI (fun r μ' => μ' = μ ∧ Q r)) (fun E μ' => μ' = μ ∧ X E) := by
  refine mz_MX (by decide +kernel) (Nat.le_of_ble_eq_true rfl) (fun p e s m args below meth c S hG hr hlk hnm hex => ?_)
  intro H locs ls hM hS hl
  have hl : lv_has ls 2 [(0, .ref o), (1, .int x1)] := hl
  unfold w_X10_inboxSize at h
  refine lv_aload_n S.1 S.2.1 dX10_inboxSize_0 rfl (lv_at hl 0 rfl) ?_
  refine lv_iload_n S.1 S.2.1 dX10_inboxSize_1 rfl (lv_at hl 1 rfl) ?_
  obtain ⟨k1, h⟩ := h
  refine mz_VX S hG hM hS cf_9 k1 (As := [.int x1]) (rest := []) (c_X10_existingNest hl0 h) yf_X10_existingNest tw_1086 tw_1088 ts_10 ⟨Nat.le_of_ble_eq_true rfl, Nat.le_of_ble_eq_true rfl⟩ ⟨(Nat.le_of_ble_eq_true rfl), (Nat.le_of_ble_eq_true rfl)⟩ rfl hl.1 rfl (Nat.le_of_ble_eq_true rfl) dX10_inboxSize_2 (fun E ce q9 μ9 H locs hp hM hS hc9 hv9 hcl9 => ?_) (fun v9 μ9 H locs hp hM hS => ?_)
  · obtain ⟨e9, h⟩ := hp
    rw [e9] at hM
    exact mz_out hex hlk hM hS hc9 hv9 hcl9 (Nat.le_of_ble_eq_true rfl) (Nat.le_of_ble_eq_true rfl) ⟨rfl, h⟩
  · obtain ⟨ru2, rfl, e9, h⟩ := hp
    rw [e9] at hM
    refine W.cs (cells' := 1) (slots' := 6) rfl rfl ?_
    obtain ⟨a3, e4, h⟩ := h
    refine mz_o0 e4 ?_
    obtain ⟨k5, h⟩ := h
    refine mz_geti S hG hM cf_5 fd_165 tw_117 dX10_inboxSize_5 k5 ?_
    exact vx_ret (mz_iret S hr hlk hM hS rfl (Nat.le_of_ble_eq_true rfl) (Nat.le_of_ble_eq_true rfl) dX10_inboxSize_8 ⟨_, rfl, rfl, h⟩)
set_option maxRecDepth 100000 in
set_option maxHeartbeats 4000000 in
theorem c_X10_inboxMessage {l : Launch} {G : mgT} {μ : mmT} {o : Nat} {x1 : Int32} {x2 : Int32} {Q : Int32 → Prop} {X : String → Prop} (hl0 : l.stackTraces = false) (h : w_X10_inboxMessage G μ o x1 x2 Q X) : MX G l yX10_inboxMessage cX10_inboxMessage 4 (some .int) { frames := 7, cells := 2, slots := 12, locals := 122 } [.ref o, .int x1, .int x2] μ (pI (fun r μ' => μ' = μ ∧ Q r)) (fun E μ' => μ' = μ ∧ X E) := by
  refine mz_MX (by decide +kernel) (Nat.le_of_ble_eq_true rfl) (fun p e s m args below meth c S hG hr hlk hnm hex => ?_)
  have hB18 : ∀  (H : Heap) (locs : List Loc) (ls : Array Slot), Mm G μ H → va_S (Ah G) s.heap H locs → lv_has ls 4 [(0, .ref o)] → w_X10_inboxMessage_b18 G μ o Q X   → W p l e { frames := 7, cells := 2, slots := 12, locals := 122 } s m args below meth c H locs 1 6 (vx_MQ below (mQ G (pI (fun r μ' => μ' = μ ∧ Q r))) (mX G (fun E μ' => μ' = μ ∧ X E)) args s 2 12 (Ah G)) (F0 m 18 ls []) := by
    intro   H locs ls hM hS hl h
    unfold w_X10_inboxMessage_b18 at h
    exact mz_throwN S hl0 hG hM hS hex hlk hl.1 xf_108_112 (j := 10) rfl dX10_inboxMessage_18 dX10_inboxMessage_21 dX10_inboxMessage_22 dX10_inboxMessage_24 dX10_inboxMessage_27 (Nat.le_of_ble_eq_true rfl) (Nat.le_of_ble_eq_true rfl) (Nat.le_of_ble_eq_true rfl) (Nat.le_of_ble_eq_true rfl) (Nat.le_of_ble_eq_true rfl) (Nat.le_of_ble_eq_true rfl) ⟨rfl, h⟩
  intro H locs ls hM hS hl
  have hl : lv_has ls 4 [(0, .ref o), (1, .int x1), (2, .int x2)] := hl
  unfold w_X10_inboxMessage at h
  refine lv_aload_n S.1 S.2.1 dX10_inboxMessage_0 rfl (lv_at hl 0 rfl) ?_
  refine lv_iload_n S.1 S.2.1 dX10_inboxMessage_1 rfl (lv_at hl 1 rfl) ?_
  obtain ⟨k1, h⟩ := h
  refine mz_VX S hG hM hS cf_9 k1 (As := [.int x1]) (rest := []) (c_X10_existingNest hl0 h) yf_X10_existingNest tw_1086 tw_1088 ts_10 ⟨Nat.le_of_ble_eq_true rfl, Nat.le_of_ble_eq_true rfl⟩ ⟨(Nat.le_of_ble_eq_true rfl), (Nat.le_of_ble_eq_true rfl)⟩ rfl hl.1 rfl (Nat.le_of_ble_eq_true rfl) dX10_inboxMessage_2 (fun E ce q9 μ9 H locs hp hM hS hc9 hv9 hcl9 => ?_) (fun v9 μ9 H locs hp hM hS => ?_)
  · obtain ⟨e9, h⟩ := hp
    rw [e9] at hM
    exact mz_out hex hlk hM hS hc9 hv9 hcl9 (Nat.le_of_ble_eq_true rfl) (Nat.le_of_ble_eq_true rfl) ⟨rfl, h⟩
  · obtain ⟨ru2, rfl, e9, h⟩ := hp
    rw [e9] at hM
    refine W.cs (cells' := 1) (slots' := 6) rfl rfl ?_
    refine mz_astore_n (x := ru2) (lv' := [(3, va_rf ru2), (0, .ref o), (1, .int x1), (2, .int x2)]) S.1 S.2.1 dX10_inboxMessage_5 rfl hl (by decide) rfl (fun ls hl => ?_)
    refine lv_iload_n S.1 S.2.1 dX10_inboxMessage_6 rfl (lv_at hl 3 rfl) ?_
    refine lv_if_lt (tgt := 18) S.1 S.2.1 dX10_inboxMessage_7 (by decide) (fun c3 => ?_) (fun c3 => ?_)
    · have h := h.1 c3
      refine W.widen (k := 1) (n := 6) (by omega) (by omega) ?_
      exact hB18   H locs ls hM hS (lv_sub hl [1] rfl) h
    · have h := h.2 c3
      refine lv_iload_n S.1 S.2.1 dX10_inboxMessage_10 rfl (lv_at hl 3 rfl) ?_
      refine mz_aload_n (x := ru2) S.1 S.2.1 dX10_inboxMessage_11 rfl (lv_at hl 0 rfl) ?_
      obtain ⟨a4, e5, h⟩ := h
      refine mz_o0 e5 ?_
      obtain ⟨k6, h⟩ := h
      refine mz_geti S hG hM cf_5 fd_165 tw_117 dX10_inboxMessage_12 k6 ?_
      refine lv_icmp_lt (tgt := 28) S.1 S.2.1 dX10_inboxMessage_15 (by decide) (fun c7 => ?_) (fun c7 => ?_)
      · have h := h.1 c7
        refine mz_aload_n (x := ru2) S.1 S.2.1 dX10_inboxMessage_28 rfl (lv_at hl 0 rfl) ?_
        refine mz_o0 e5 ?_
        refine mz_getr S hG hM cf_5 fd_160 tw_105 dX10_inboxMessage_29 k6 ?_
        refine lv_iload_n S.1 S.2.1 dX10_inboxMessage_32 rfl (lv_at hl 3 rfl) ?_
        obtain ⟨a8, e9, h⟩ := h
        refine mz_o1 e9 ?_
        obtain ⟨k10, h⟩ := h
        obtain ⟨b11, h⟩ := h
        refine mz_iald S hG hM dX10_inboxMessage_33 k10 b11 ?_
        exact vx_ret (mz_iret S hr hlk hM hS rfl (Nat.le_of_ble_eq_true rfl) (Nat.le_of_ble_eq_true rfl) dX10_inboxMessage_34 ⟨_, rfl, rfl, h⟩)
      · have h := h.2 c7
        refine W.widen (k := 1) (n := 6) (by omega) (by omega) ?_
        exact hB18   H locs ls hM hS (lv_sub hl [1] rfl) h
set_option maxRecDepth 100000 in
set_option maxHeartbeats 4000000 in
theorem c_X10_remembers {l : Launch} {G : mgT} {μ : mmT} {o : Nat} {x1 : Int32} {x2 : Int32} {Q : Int32 → Prop} {X : String → Prop} (hl0 : l.stackTraces = false) (h : w_X10_remembers G μ o x1 x2 Q X) : MX G l yX10_remembers cX10_remembers 3 (some .boolean) { frames := 7, cells := 1, slots := 6, locals := 122 } [.ref o, .int x1, .int x2] μ (pI (fun r μ' => μ' = μ ∧ Q r)) (fun E μ' => μ' = μ ∧ X E) := by
  refine mz_MX (by decide +kernel) (Nat.le_of_ble_eq_true rfl) (fun p e s m args below meth c S hG hr hlk hnm hex => ?_)
  intro H locs ls hM hS hl
  have hl : lv_has ls 3 [(0, .ref o), (1, .int x1), (2, .int x2)] := hl
  unfold w_X10_remembers at h
  refine lv_aload_n S.1 S.2.1 dX10_remembers_0 rfl (lv_at hl 0 rfl) ?_
  refine lv_iload_n S.1 S.2.1 dX10_remembers_1 rfl (lv_at hl 1 rfl) ?_
  obtain ⟨k1, h⟩ := h
  refine mz_VX S hG hM hS cf_9 k1 (As := [.int x1]) (rest := []) (c_X10_existingNest hl0 h) yf_X10_existingNest tw_1086 tw_1088 ts_10 ⟨Nat.le_of_ble_eq_true rfl, Nat.le_of_ble_eq_true rfl⟩ ⟨(Nat.le_of_ble_eq_true rfl), (Nat.le_of_ble_eq_true rfl)⟩ rfl hl.1 rfl (Nat.le_of_ble_eq_true rfl) dX10_remembers_2 (fun E ce q9 μ9 H locs hp hM hS hc9 hv9 hcl9 => ?_) (fun v9 μ9 H locs hp hM hS => ?_)
  · obtain ⟨e9, h⟩ := hp
    rw [e9] at hM
    exact mz_out hex hlk hM hS hc9 hv9 hcl9 (Nat.le_of_ble_eq_true rfl) (Nat.le_of_ble_eq_true rfl) ⟨rfl, h⟩
  · obtain ⟨ru2, rfl, e9, h⟩ := hp
    rw [e9] at hM
    refine W.cs (cells' := 1) (slots' := 6) rfl rfl ?_
    refine lv_iload_n S.1 S.2.1 dX10_remembers_5 rfl (lv_at hl 2 rfl) ?_
    obtain ⟨a3, e4, h⟩ := h
    refine mz_o1 e4 ?_
    obtain ⟨k5, h⟩ := h
    refine mz_V S hG hM hS cf_5 k5 (As := [.int x2]) (rest := []) (c_X6_knows h) yf_X6_knows tw_1120 tw_1046 tw_1047 ⟨Nat.le_of_ble_eq_true rfl, Nat.le_of_ble_eq_true rfl⟩ ⟨(Nat.le_of_ble_eq_true rfl), (Nat.le_of_ble_eq_true rfl)⟩ rfl hl.1 rfl (Nat.le_of_ble_eq_true rfl) dX10_remembers_6 (fun v9 μ9 H locs hp hM hS => ?_)
    obtain ⟨u6, rfl, e9, h⟩ := hp
    rw [e9] at hM
    refine W.cs (cells' := 1) (slots' := 6) rfl rfl ?_
    obtain ⟨f7, h⟩ := h
    exact vx_ret (mz_iret S hr hlk hM hS (mz_nZ f7) (Nat.le_of_ble_eq_true rfl) (Nat.le_of_ble_eq_true rfl) dX10_remembers_9 ⟨_, rfl, rfl, h⟩)
set_option maxRecDepth 100000 in
set_option maxHeartbeats 4000000 in
theorem c_X10_rememberedCount {l : Launch} {G : mgT} {μ : mmT} {o : Nat} {x1 : Int32} {Q : Int32 → Prop} {X : String → Prop} (hl0 : l.stackTraces = false) (h : w_X10_rememberedCount G μ o x1 Q X) : MX G l yX10_rememberedCount cX10_rememberedCount 2 (some .int) { frames := 7, cells := 1, slots := 6, locals := 122 } [.ref o, .int x1] μ (pI (fun r μ' => μ' = μ ∧ Q r)) (fun E μ' => μ' = μ ∧ X E) := by
  refine mz_MX (by decide +kernel) (Nat.le_of_ble_eq_true rfl) (fun p e s m args below meth c S hG hr hlk hnm hex => ?_)
  intro H locs ls hM hS hl
  have hl : lv_has ls 2 [(0, .ref o), (1, .int x1)] := hl
  unfold w_X10_rememberedCount at h
  refine lv_aload_n S.1 S.2.1 dX10_rememberedCount_0 rfl (lv_at hl 0 rfl) ?_
  refine lv_iload_n S.1 S.2.1 dX10_rememberedCount_1 rfl (lv_at hl 1 rfl) ?_
  obtain ⟨k1, h⟩ := h
  refine mz_VX S hG hM hS cf_9 k1 (As := [.int x1]) (rest := []) (c_X10_existingNest hl0 h) yf_X10_existingNest tw_1086 tw_1088 ts_10 ⟨Nat.le_of_ble_eq_true rfl, Nat.le_of_ble_eq_true rfl⟩ ⟨(Nat.le_of_ble_eq_true rfl), (Nat.le_of_ble_eq_true rfl)⟩ rfl hl.1 rfl (Nat.le_of_ble_eq_true rfl) dX10_rememberedCount_2 (fun E ce q9 μ9 H locs hp hM hS hc9 hv9 hcl9 => ?_) (fun v9 μ9 H locs hp hM hS => ?_)
  · obtain ⟨e9, h⟩ := hp
    rw [e9] at hM
    exact mz_out hex hlk hM hS hc9 hv9 hcl9 (Nat.le_of_ble_eq_true rfl) (Nat.le_of_ble_eq_true rfl) ⟨rfl, h⟩
  · obtain ⟨ru2, rfl, e9, h⟩ := hp
    rw [e9] at hM
    refine W.cs (cells' := 1) (slots' := 6) rfl rfl ?_
    obtain ⟨a3, e4, h⟩ := h
    refine mz_o0 e4 ?_
    obtain ⟨k5, h⟩ := h
    refine mz_geti S hG hM cf_5 fd_166 tw_120 dX10_rememberedCount_5 k5 ?_
    exact vx_ret (mz_iret S hr hlk hM hS rfl (Nat.le_of_ble_eq_true rfl) (Nat.le_of_ble_eq_true rfl) dX10_rememberedCount_8 ⟨_, rfl, rfl, h⟩)
set_option maxRecDepth 100000 in
set_option maxHeartbeats 4000000 in
theorem c_X10_nestByDeliveries {l : Launch} {G : mgT} {μ : mmT} {o : Nat} {x1 : Int32} {Q : Int32 → Prop} {X : String → Prop} (hl0 : l.stackTraces = false) (h : w_X10_nestByDeliveries G μ o x1 Q X) : MX G l yX10_nestByDeliveries cX10_nestByDeliveries 3 (some .int) { frames := 6, cells := 1, slots := 6, locals := 100 } [.ref o, .int x1] μ (pI (fun r μ' => μ' = μ ∧ Q r)) (fun E μ' => μ' = μ ∧ X E) := by
  refine mz_MX (by decide +kernel) (Nat.le_of_ble_eq_true rfl) (fun p e s m args below meth c S hG hr hlk hnm hex => ?_)
  intro H locs ls hM hS hl
  have hl : lv_has ls 3 [(0, .ref o), (1, .int x1)] := hl
  unfold w_X10_nestByDeliveries at h
  refine lv_aload_n S.1 S.2.1 dX10_nestByDeliveries_0 rfl (lv_at hl 0 rfl) ?_
  obtain ⟨k1, h⟩ := h
  refine mz_getr S hG hM cf_9 fd_288 tw_347 dX10_nestByDeliveries_1 k1 ?_
  refine lv_iload_n S.1 S.2.1 dX10_nestByDeliveries_4 rfl (lv_at hl 1 rfl) ?_
  obtain ⟨a2, e3, h⟩ := h
  refine mz_o1 e3 ?_
  obtain ⟨k4, h⟩ := h
  refine mz_V S hG hM hS cf_7 k4 (As := [.int x1]) (rest := []) (c_X8_nestAtRank h) yf_X8_nestAtRank tw_1135 tw_1136 tw_1137 ⟨Nat.le_of_ble_eq_true rfl, Nat.le_of_ble_eq_true rfl⟩ ⟨(Nat.le_of_ble_eq_true rfl), (Nat.le_of_ble_eq_true rfl)⟩ rfl hl.1 rfl (Nat.le_of_ble_eq_true rfl) dX10_nestByDeliveries_5 (fun v9 μ9 H locs hp hM hS => ?_)
  obtain ⟨u5, rfl, e9, h⟩ := hp
  rw [e9] at hM
  refine W.cs (cells' := 0) (slots' := 0) rfl rfl ?_
  refine lv_istore_n (lv' := [(2, .int u5), (0, .ref o), (1, .int x1)]) S.1 S.2.1 dX10_nestByDeliveries_8 rfl hl (by decide) rfl (fun ls hl => ?_)
  refine lv_iload_n S.1 S.2.1 dX10_nestByDeliveries_9 rfl (lv_at hl 0 rfl) ?_
  refine lv_iconst (v := (-1)) S.1 S.2.1 dX10_nestByDeliveries_10 (by decide) ?_
  refine lv_icmp_ne (tgt := 24) S.1 S.2.1 dX10_nestByDeliveries_11 (by decide) (fun c6 => ?_) (fun c6 => ?_)
  · have h := h.1 c6
    refine lv_iload_n S.1 S.2.1 dX10_nestByDeliveries_24 rfl (lv_at hl 0 rfl) ?_
    exact vx_ret (mz_iret S hr hlk hM hS rfl (Nat.le_of_ble_eq_true rfl) (Nat.le_of_ble_eq_true rfl) dX10_nestByDeliveries_25 ⟨_, rfl, rfl, h⟩)
  · have h := h.2 c6
    exact mz_throwN S hl0 hG hM hS hex hlk hl.1 xf_108_112 (j := 11) rfl dX10_nestByDeliveries_14 dX10_nestByDeliveries_17 dX10_nestByDeliveries_18 dX10_nestByDeliveries_20 dX10_nestByDeliveries_23 (Nat.le_of_ble_eq_true rfl) (Nat.le_of_ble_eq_true rfl) (Nat.le_of_ble_eq_true rfl) (Nat.le_of_ble_eq_true rfl) (Nat.le_of_ble_eq_true rfl) (Nat.le_of_ble_eq_true rfl) ⟨rfl, h⟩
set_option maxRecDepth 100000 in
set_option maxHeartbeats 4000000 in
theorem c_X10_crowCount {l : Launch} {G : mgT} {μ : mmT} {o : Nat} {Q : Int32 → Prop} (h : w_X10_crowCount G μ o Q) : MC G l yX10_crowCount cX10_crowCount 1 (some .int) { frames := 0, cells := 0, slots := 0, locals := 0 } [.ref o] μ (pI (fun r μ' => μ' = μ ∧ Q r)) := by
  refine mz_MC (by decide +kernel) (Nat.le_of_ble_eq_true rfl) (fun p e s m args below meth c S hG hr hlk hnm => ?_)
  intro H locs ls hM hS hl
  have hl : lv_has ls 1 [(0, .ref o)] := hl
  unfold w_X10_crowCount at h
  refine lv_aload_n S.1 S.2.1 dX10_crowCount_0 rfl (lv_at hl 0 rfl) ?_
  obtain ⟨k1, h⟩ := h
  refine mz_getr S hG hM cf_9 fd_288 tw_347 dX10_crowCount_1 k1 ?_
  obtain ⟨a2, e3, h⟩ := h
  refine mz_o0 e3 ?_
  obtain ⟨k4, h⟩ := h
  refine mz_geti S hG hM cf_7 fd_229 tw_204 dX10_crowCount_4 k4 ?_
  exact mz_iret S hr hlk hM hS rfl (Nat.le_of_ble_eq_true rfl) (Nat.le_of_ble_eq_true rfl) dX10_crowCount_7 ⟨_, rfl, rfl, h⟩
set_option maxRecDepth 100000 in
set_option maxHeartbeats 4000000 in
theorem c_X10_existingCrow {l : Launch} {G : mgT} {μ : mmT} {o : Nat} {x1 : Int32} {Q : Option Nat → Prop} {X : String → Prop} (hl0 : l.stackTraces = false) (h : w_X10_existingCrow G μ o x1 Q X) : MX G l yX10_existingCrow cX10_existingCrow 3 (some (.object "CrowMail$Crow")) { frames := 6, cells := 1, slots := 6, locals := 100 } [.ref o, .int x1] μ (pR (fun r μ' => μ' = μ ∧ Q r)) (fun E μ' => μ' = μ ∧ X E) := by
  refine mz_MX (by decide +kernel) (Nat.le_of_ble_eq_true rfl) (fun p e s m args below meth c S hG hr hlk hnm hex => ?_)
  intro H locs ls hM hS hl
  have hl : lv_has ls 3 [(0, .ref o), (1, .int x1)] := hl
  unfold w_X10_existingCrow at h
  refine lv_aload_n S.1 S.2.1 dX10_existingCrow_0 rfl (lv_at hl 0 rfl) ?_
  obtain ⟨k1, h⟩ := h
  refine mz_getr S hG hM cf_9 fd_288 tw_347 dX10_existingCrow_1 k1 ?_
  refine lv_iload_n S.1 S.2.1 dX10_existingCrow_4 rfl (lv_at hl 1 rfl) ?_
  obtain ⟨a2, e3, h⟩ := h
  refine mz_o1 e3 ?_
  obtain ⟨k4, h⟩ := h
  refine mz_V S hG hM hS cf_7 k4 (As := [.int x1]) (rest := []) (c_X8_crowAt h) yf_X8_crowAt tw_1155 tw_1156 tw_1157 ⟨Nat.le_of_ble_eq_true rfl, Nat.le_of_ble_eq_true rfl⟩ ⟨(Nat.le_of_ble_eq_true rfl), (Nat.le_of_ble_eq_true rfl)⟩ rfl hl.1 rfl (Nat.le_of_ble_eq_true rfl) dX10_existingCrow_5 (fun v9 μ9 H locs hp hM hS => ?_)
  obtain ⟨ru5, rfl, e9, h⟩ := hp
  rw [e9] at hM
  refine W.cs (cells' := 0) (slots' := 0) rfl rfl ?_
  refine mz_astore_n (x := ru5) (lv' := [(2, va_rf ru5), (0, .ref o), (1, .int x1)]) S.1 S.2.1 dX10_existingCrow_8 rfl hl (by decide) rfl (fun ls hl => ?_)
  refine mz_aload_n (x := ru5) S.1 S.2.1 dX10_existingCrow_9 rfl (lv_at hl 0 rfl) ?_
  refine mz_ifnonnull (tgt := 23) S.1 S.2.1 dX10_existingCrow_10 (by decide) (fun a6 e7 => ?_) (fun e7 => ?_)
  · have h := h.2 a6 e7
    refine mz_aload_n (x := ru5) S.1 S.2.1 dX10_existingCrow_23 rfl (lv_at hl 0 rfl) ?_
    exact vx_ret (mz_aret (x := ru5) S hr (by first | exact Or.inl ⟨_, rfl⟩ | exact Or.inr ⟨_, rfl⟩) hlk hM hS (Nat.le_of_ble_eq_true rfl) (Nat.le_of_ble_eq_true rfl) dX10_existingCrow_24 ⟨_, rfl, rfl, h⟩)
  · have h := h.1 e7
    exact mz_throw S hl0 hG hM hS hex hlk hl.1 xf_103_107 (j := 12) rfl dX10_existingCrow_13 dX10_existingCrow_16 dX10_existingCrow_17 dX10_existingCrow_19 dX10_existingCrow_22 (Nat.le_of_ble_eq_true rfl) (Nat.le_of_ble_eq_true rfl) (Nat.le_of_ble_eq_true rfl) (Nat.le_of_ble_eq_true rfl) (Nat.le_of_ble_eq_true rfl) (Nat.le_of_ble_eq_true rfl) ⟨rfl, h⟩
set_option maxRecDepth 100000 in
set_option maxHeartbeats 4000000 in
theorem c_X10_isFlying {l : Launch} {G : mgT} {μ : mmT} {o : Nat} {x1 : Int32} {Q : Int32 → Prop} {X : String → Prop} (hl0 : l.stackTraces = false) (h : w_X10_isFlying G μ o x1 Q X) : MX G l yX10_isFlying cX10_isFlying 2 (some .boolean) { frames := 7, cells := 1, slots := 6, locals := 122 } [.ref o, .int x1] μ (pI (fun r μ' => μ' = μ ∧ Q r)) (fun E μ' => μ' = μ ∧ X E) := by
  refine mz_MX (by decide +kernel) (Nat.le_of_ble_eq_true rfl) (fun p e s m args below meth c S hG hr hlk hnm hex => ?_)
  intro H locs ls hM hS hl
  have hl : lv_has ls 2 [(0, .ref o), (1, .int x1)] := hl
  unfold w_X10_isFlying at h
  refine lv_aload_n S.1 S.2.1 dX10_isFlying_0 rfl (lv_at hl 0 rfl) ?_
  refine lv_iload_n S.1 S.2.1 dX10_isFlying_1 rfl (lv_at hl 1 rfl) ?_
  obtain ⟨k1, h⟩ := h
  refine mz_VX S hG hM hS cf_9 k1 (As := [.int x1]) (rest := []) (c_X10_existingCrow hl0 h) yf_X10_existingCrow tw_1151 tw_1153 ts_12 ⟨Nat.le_of_ble_eq_true rfl, Nat.le_of_ble_eq_true rfl⟩ ⟨(Nat.le_of_ble_eq_true rfl), (Nat.le_of_ble_eq_true rfl)⟩ rfl hl.1 rfl (Nat.le_of_ble_eq_true rfl) dX10_isFlying_2 (fun E ce q9 μ9 H locs hp hM hS hc9 hv9 hcl9 => ?_) (fun v9 μ9 H locs hp hM hS => ?_)
  · obtain ⟨e9, h⟩ := hp
    rw [e9] at hM
    exact mz_out hex hlk hM hS hc9 hv9 hcl9 (Nat.le_of_ble_eq_true rfl) (Nat.le_of_ble_eq_true rfl) ⟨rfl, h⟩
  · obtain ⟨ru2, rfl, e9, h⟩ := hp
    rw [e9] at hM
    refine W.cs (cells' := 1) (slots' := 6) rfl rfl ?_
    obtain ⟨a3, e4, h⟩ := h
    refine mz_o0 e4 ?_
    obtain ⟨k5, h⟩ := h
    refine mz_geti S hG hM cf_2 fd_64 tw_144 dX10_isFlying_5 k5 ?_
    obtain ⟨f6, h⟩ := h
    exact vx_ret (mz_iret S hr hlk hM hS (mz_nZ f6) (Nat.le_of_ble_eq_true rfl) (Nat.le_of_ble_eq_true rfl) dX10_isFlying_8 ⟨_, rfl, rfl, h⟩)
set_option maxRecDepth 100000 in
set_option maxHeartbeats 4000000 in
theorem c_X10_carriedMessage {l : Launch} {G : mgT} {μ : mmT} {o : Nat} {x1 : Int32} {Q : Int32 → Prop} {X : String → Prop} (hl0 : l.stackTraces = false) (h : w_X10_carriedMessage G μ o x1 Q X) : MX G l yX10_carriedMessage cX10_carriedMessage 3 (some .int) { frames := 7, cells := 2, slots := 12, locals := 122 } [.ref o, .int x1] μ (pI (fun r μ' => μ' = μ ∧ Q r)) (fun E μ' => μ' = μ ∧ X E) := by
  refine mz_MX (by decide +kernel) (Nat.le_of_ble_eq_true rfl) (fun p e s m args below meth c S hG hr hlk hnm hex => ?_)
  intro H locs ls hM hS hl
  have hl : lv_has ls 3 [(0, .ref o), (1, .int x1)] := hl
  unfold w_X10_carriedMessage at h
  refine lv_aload_n S.1 S.2.1 dX10_carriedMessage_0 rfl (lv_at hl 0 rfl) ?_
  refine lv_iload_n S.1 S.2.1 dX10_carriedMessage_1 rfl (lv_at hl 1 rfl) ?_
  obtain ⟨k1, h⟩ := h
  refine mz_VX S hG hM hS cf_9 k1 (As := [.int x1]) (rest := []) (c_X10_existingCrow hl0 h) yf_X10_existingCrow tw_1151 tw_1153 ts_12 ⟨Nat.le_of_ble_eq_true rfl, Nat.le_of_ble_eq_true rfl⟩ ⟨(Nat.le_of_ble_eq_true rfl), (Nat.le_of_ble_eq_true rfl)⟩ rfl hl.1 rfl (Nat.le_of_ble_eq_true rfl) dX10_carriedMessage_2 (fun E ce q9 μ9 H locs hp hM hS hc9 hv9 hcl9 => ?_) (fun v9 μ9 H locs hp hM hS => ?_)
  · obtain ⟨e9, h⟩ := hp
    rw [e9] at hM
    exact mz_out hex hlk hM hS hc9 hv9 hcl9 (Nat.le_of_ble_eq_true rfl) (Nat.le_of_ble_eq_true rfl) ⟨rfl, h⟩
  · obtain ⟨ru2, rfl, e9, h⟩ := hp
    rw [e9] at hM
    refine W.cs (cells' := 1) (slots' := 6) rfl rfl ?_
    refine mz_astore_n (x := ru2) (lv' := [(2, va_rf ru2), (0, .ref o), (1, .int x1)]) S.1 S.2.1 dX10_carriedMessage_5 rfl hl (by decide) rfl (fun ls hl => ?_)
    refine mz_aload_n (x := ru2) S.1 S.2.1 dX10_carriedMessage_6 rfl (lv_at hl 0 rfl) ?_
    obtain ⟨a3, e4, h⟩ := h
    refine mz_o0 e4 ?_
    obtain ⟨k5, h⟩ := h
    refine mz_geti S hG hM cf_2 fd_64 tw_144 dX10_carriedMessage_7 k5 ?_
    refine lv_if_ne (tgt := 23) S.1 S.2.1 dX10_carriedMessage_10 (by decide) (fun c6 => ?_) (fun c6 => ?_)
    · have h := h.1 c6
      refine mz_aload_n (x := ru2) S.1 S.2.1 dX10_carriedMessage_23 rfl (lv_at hl 0 rfl) ?_
      refine mz_o0 e4 ?_
      refine mz_geti S hG hM cf_2 fd_65 tw_147 dX10_carriedMessage_24 k5 ?_
      exact vx_ret (mz_iret S hr hlk hM hS rfl (Nat.le_of_ble_eq_true rfl) (Nat.le_of_ble_eq_true rfl) dX10_carriedMessage_27 ⟨_, rfl, rfl, h⟩)
    · have h := h.2 c6
      exact mz_throwN S hl0 hG hM hS hex hlk hl.1 xf_108_112 (j := 13) rfl dX10_carriedMessage_13 dX10_carriedMessage_16 dX10_carriedMessage_17 dX10_carriedMessage_19 dX10_carriedMessage_22 (Nat.le_of_ble_eq_true rfl) (Nat.le_of_ble_eq_true rfl) (Nat.le_of_ble_eq_true rfl) (Nat.le_of_ble_eq_true rfl) (Nat.le_of_ble_eq_true rfl) (Nat.le_of_ble_eq_true rfl) ⟨rfl, h⟩
set_option maxRecDepth 100000 in
set_option maxHeartbeats 4000000 in
theorem c_X10_flightMinutes {l : Launch} {G : mgT} {μ : mmT} {o : Nat} {x1 : Int32} {Q : Int32 → Prop} {X : String → Prop} (hl0 : l.stackTraces = false) (h : w_X10_flightMinutes G μ o x1 Q X) : MX G l yX10_flightMinutes cX10_flightMinutes 3 (some .int) { frames := 7, cells := 1, slots := 6, locals := 122 } [.ref o, .int x1] μ (pI (fun r μ' => μ' = μ ∧ Q r)) (fun E μ' => μ' = μ ∧ X E) := by
  refine mz_MX (by decide +kernel) (Nat.le_of_ble_eq_true rfl) (fun p e s m args below meth c S hG hr hlk hnm hex => ?_)
  have hB29 : ∀ (s0 : Int32) (H : Heap) (locs : List Loc) (ls : Array Slot), Mm G μ H → va_S (Ah G) s.heap H locs → lv_has ls 3 [(0, .ref o)] → w_X10_flightMinutes_b29 G μ o Q X  s0 → W p l e { frames := 7, cells := 1, slots := 6, locals := 122 } s m args below meth c H locs 1 6 (vx_MQ below (mQ G (pI (fun r μ' => μ' = μ ∧ Q r))) (mX G (fun E μ' => μ' = μ ∧ X E)) args s 1 6 (Ah G)) (F0 m 29 ls [.int s0]) := by
    intro  s0 H locs ls hM hS hl h
    unfold w_X10_flightMinutes_b29 at h
    exact vx_ret (mz_iret S hr hlk hM hS rfl (Nat.le_of_ble_eq_true rfl) (Nat.le_of_ble_eq_true rfl) dX10_flightMinutes_29 ⟨_, rfl, rfl, h⟩)
  intro H locs ls hM hS hl
  have hl : lv_has ls 3 [(0, .ref o), (1, .int x1)] := hl
  unfold w_X10_flightMinutes at h
  refine lv_aload_n S.1 S.2.1 dX10_flightMinutes_0 rfl (lv_at hl 0 rfl) ?_
  refine lv_iload_n S.1 S.2.1 dX10_flightMinutes_1 rfl (lv_at hl 1 rfl) ?_
  obtain ⟨k1, h⟩ := h
  refine mz_VX S hG hM hS cf_9 k1 (As := [.int x1]) (rest := []) (c_X10_existingCrow hl0 h) yf_X10_existingCrow tw_1151 tw_1153 ts_12 ⟨Nat.le_of_ble_eq_true rfl, Nat.le_of_ble_eq_true rfl⟩ ⟨(Nat.le_of_ble_eq_true rfl), (Nat.le_of_ble_eq_true rfl)⟩ rfl hl.1 rfl (Nat.le_of_ble_eq_true rfl) dX10_flightMinutes_2 (fun E ce q9 μ9 H locs hp hM hS hc9 hv9 hcl9 => ?_) (fun v9 μ9 H locs hp hM hS => ?_)
  · obtain ⟨e9, h⟩ := hp
    rw [e9] at hM
    exact mz_out hex hlk hM hS hc9 hv9 hcl9 (Nat.le_of_ble_eq_true rfl) (Nat.le_of_ble_eq_true rfl) ⟨rfl, h⟩
  · obtain ⟨ru2, rfl, e9, h⟩ := hp
    rw [e9] at hM
    refine W.cs (cells' := 1) (slots' := 6) rfl rfl ?_
    refine mz_astore_n (x := ru2) (lv' := [(2, va_rf ru2), (0, .ref o), (1, .int x1)]) S.1 S.2.1 dX10_flightMinutes_5 rfl hl (by decide) rfl (fun ls hl => ?_)
    refine mz_aload_n (x := ru2) S.1 S.2.1 dX10_flightMinutes_6 rfl (lv_at hl 0 rfl) ?_
    obtain ⟨a3, e4, h⟩ := h
    refine mz_o0 e4 ?_
    obtain ⟨k5, h⟩ := h
    refine mz_geti S hG hM cf_2 fd_64 tw_144 dX10_flightMinutes_7 k5 ?_
    refine lv_if_eq (tgt := 28) S.1 S.2.1 dX10_flightMinutes_10 (by decide) (fun c6 => ?_) (fun c6 => ?_)
    · have h := h.1 c6
      refine lv_iconst (v := (nI 0)) S.1 S.2.1 dX10_flightMinutes_28 (by decide) ?_
      refine W.widen (k := 1) (n := 6) (by omega) (by omega) ?_
      exact hB29  (nI 0) H locs ls hM hS (lv_sub hl [1] rfl) h
    · have h := h.2 c6
      refine mz_aload_n (x := ru2) S.1 S.2.1 dX10_flightMinutes_13 rfl (lv_at hl 0 rfl) ?_
      refine mz_o0 e4 ?_
      refine mz_geti S hG hM cf_2 fd_66 tw_150 dX10_flightMinutes_14 k5 ?_
      refine lv_aload_n S.1 S.2.1 dX10_flightMinutes_17 rfl (lv_at hl 1 rfl) ?_
      refine mz_getr S hG hM cf_9 fd_288 tw_347 dX10_flightMinutes_18 k1 ?_
      obtain ⟨a7, e8, h⟩ := h
      refine mz_o0 e8 ?_
      obtain ⟨k9, h⟩ := h
      refine mz_geti S hG hM cf_7 fd_231 tw_208 dX10_flightMinutes_21 k9 ?_
      refine lv_isub S.1 S.2.1 dX10_flightMinutes_24 ?_
      refine lv_goto (tgt := 29) S.1 S.2.1 dX10_flightMinutes_25 (by decide) ?_
      refine W.widen (k := 1) (n := 6) (by omega) (by omega) ?_
      exact hB29  ((mI μ 66 a3) - (mI μ 231 a7)) H locs ls hM hS (lv_sub hl [1] rfl) h
set_option maxRecDepth 100000 in
set_option maxHeartbeats 4000000 in
theorem c_X10_messageCount {l : Launch} {G : mgT} {μ : mmT} {o : Nat} {Q : Int32 → Prop} (h : w_X10_messageCount G μ o Q) : MC G l yX10_messageCount cX10_messageCount 1 (some .int) { frames := 0, cells := 0, slots := 0, locals := 0 } [.ref o] μ (pI (fun r μ' => μ' = μ ∧ Q r)) := by
  refine mz_MC (by decide +kernel) (Nat.le_of_ble_eq_true rfl) (fun p e s m args below meth c S hG hr hlk hnm => ?_)
  intro H locs ls hM hS hl
  have hl : lv_has ls 1 [(0, .ref o)] := hl
  unfold w_X10_messageCount at h
  refine lv_aload_n S.1 S.2.1 dX10_messageCount_0 rfl (lv_at hl 0 rfl) ?_
  obtain ⟨k1, h⟩ := h
  refine mz_getr S hG hM cf_9 fd_288 tw_347 dX10_messageCount_1 k1 ?_
  obtain ⟨a2, e3, h⟩ := h
  refine mz_o0 e3 ?_
  obtain ⟨k4, h⟩ := h
  refine mz_geti S hG hM cf_7 fd_230 tw_206 dX10_messageCount_4 k4 ?_
  exact mz_iret S hr hlk hM hS rfl (Nat.le_of_ble_eq_true rfl) (Nat.le_of_ble_eq_true rfl) dX10_messageCount_7 ⟨_, rfl, rfl, h⟩
set_option maxRecDepth 100000 in
set_option maxHeartbeats 4000000 in
theorem c_X10_messageAt {l : Launch} {G : mgT} {μ : mmT} {o : Nat} {x1 : Int32} {Q : Int32 → Prop} {X : String → Prop} (hl0 : l.stackTraces = false) (h : w_X10_messageAt G μ o x1 Q X) : MX G l yX10_messageAt cX10_messageAt 2 (some .int) { frames := 6, cells := 1, slots := 6, locals := 100 } [.ref o, .int x1] μ (pI (fun r μ' => μ' = μ ∧ Q r)) (fun E μ' => μ' = μ ∧ X E) := by
  refine mz_MX (by decide +kernel) (Nat.le_of_ble_eq_true rfl) (fun p e s m args below meth c S hG hr hlk hnm hex => ?_)
  have hB15 : ∀  (H : Heap) (locs : List Loc) (ls : Array Slot), Mm G μ H → va_S (Ah G) s.heap H locs → lv_has ls 2 [(0, .ref o)] → w_X10_messageAt_b15 G μ o Q X   → W p l e { frames := 6, cells := 1, slots := 6, locals := 100 } s m args below meth c H locs 0 0 (vx_MQ below (mQ G (pI (fun r μ' => μ' = μ ∧ Q r))) (mX G (fun E μ' => μ' = μ ∧ X E)) args s 1 6 (Ah G)) (F0 m 15 ls []) := by
    intro   H locs ls hM hS hl h
    unfold w_X10_messageAt_b15 at h
    exact mz_throwN S hl0 hG hM hS hex hlk hl.1 xf_108_112 (j := 10) rfl dX10_messageAt_15 dX10_messageAt_18 dX10_messageAt_19 dX10_messageAt_21 dX10_messageAt_24 (Nat.le_of_ble_eq_true rfl) (Nat.le_of_ble_eq_true rfl) (Nat.le_of_ble_eq_true rfl) (Nat.le_of_ble_eq_true rfl) (Nat.le_of_ble_eq_true rfl) (Nat.le_of_ble_eq_true rfl) ⟨rfl, h⟩
  intro H locs ls hM hS hl
  have hl : lv_has ls 2 [(0, .ref o), (1, .int x1)] := hl
  unfold w_X10_messageAt at h
  refine lv_iload_n S.1 S.2.1 dX10_messageAt_0 rfl (lv_at hl 1 rfl) ?_
  refine lv_if_lt (tgt := 15) S.1 S.2.1 dX10_messageAt_1 (by decide) (fun c1 => ?_) (fun c1 => ?_)
  · have h := h.1 c1
    exact hB15   H locs ls hM hS (lv_sub hl [0] rfl) h
  · have h := h.2 c1
    refine lv_iload_n S.1 S.2.1 dX10_messageAt_4 rfl (lv_at hl 1 rfl) ?_
    refine lv_aload_n S.1 S.2.1 dX10_messageAt_5 rfl (lv_at hl 0 rfl) ?_
    obtain ⟨k2, h⟩ := h
    refine mz_getr S hG hM cf_9 fd_288 tw_347 dX10_messageAt_6 k2 ?_
    obtain ⟨a3, e4, h⟩ := h
    refine mz_o0 e4 ?_
    obtain ⟨k5, h⟩ := h
    refine mz_geti S hG hM cf_7 fd_230 tw_206 dX10_messageAt_9 k5 ?_
    refine lv_icmp_lt (tgt := 25) S.1 S.2.1 dX10_messageAt_12 (by decide) (fun c6 => ?_) (fun c6 => ?_)
    · have h := h.1 c6
      refine lv_aload_n S.1 S.2.1 dX10_messageAt_25 rfl (lv_at hl 0 rfl) ?_
      refine mz_getr S hG hM cf_9 fd_288 tw_347 dX10_messageAt_26 k2 ?_
      refine mz_o0 e4 ?_
      refine mz_getr S hG hM cf_7 fd_226 tw_198 dX10_messageAt_29 k5 ?_
      refine lv_iload_n S.1 S.2.1 dX10_messageAt_32 rfl (lv_at hl 1 rfl) ?_
      obtain ⟨a7, e8, h⟩ := h
      refine mz_o1 e8 ?_
      obtain ⟨k9, h⟩ := h
      obtain ⟨b10, h⟩ := h
      refine mz_aald (j := 7) S hG hM dX10_messageAt_33 (by decide) rfl k9 b10 ?_
      obtain ⟨a11, e12, h⟩ := h
      refine mz_o0 e12 ?_
      obtain ⟨k13, h⟩ := h
      refine mz_geti S hG hM cf_4 fd_128 tw_165 dX10_messageAt_34 k13 ?_
      exact vx_ret (mz_iret S hr hlk hM hS rfl (Nat.le_of_ble_eq_true rfl) (Nat.le_of_ble_eq_true rfl) dX10_messageAt_37 ⟨_, rfl, rfl, h⟩)
    · have h := h.2 c6
      exact hB15   H locs ls hM hS (lv_sub hl [0] rfl) h
set_option maxRecDepth 100000 in
set_option maxHeartbeats 4000000 in
theorem c_X10_existingMessage {l : Launch} {G : mgT} {μ : mmT} {o : Nat} {x1 : Int32} {Q : Option Nat → Prop} {X : String → Prop} (hl0 : l.stackTraces = false) (h : w_X10_existingMessage G μ o x1 Q X) : MX G l yX10_existingMessage cX10_existingMessage 3 (some (.object "CrowMail$Message")) { frames := 6, cells := 1, slots := 6, locals := 100 } [.ref o, .int x1] μ (pR (fun r μ' => μ' = μ ∧ Q r)) (fun E μ' => μ' = μ ∧ X E) := by
  refine mz_MX (by decide +kernel) (Nat.le_of_ble_eq_true rfl) (fun p e s m args below meth c S hG hr hlk hnm hex => ?_)
  intro H locs ls hM hS hl
  have hl : lv_has ls 3 [(0, .ref o), (1, .int x1)] := hl
  unfold w_X10_existingMessage at h
  refine lv_aload_n S.1 S.2.1 dX10_existingMessage_0 rfl (lv_at hl 0 rfl) ?_
  obtain ⟨k1, h⟩ := h
  refine mz_getr S hG hM cf_9 fd_288 tw_347 dX10_existingMessage_1 k1 ?_
  refine lv_iload_n S.1 S.2.1 dX10_existingMessage_4 rfl (lv_at hl 1 rfl) ?_
  obtain ⟨a2, e3, h⟩ := h
  refine mz_o1 e3 ?_
  obtain ⟨k4, h⟩ := h
  refine mz_V S hG hM hS cf_7 k4 (As := [.int x1]) (rest := []) (c_X8_messageWith h) yf_X8_messageWith tw_1193 tw_997 tw_998 ⟨Nat.le_of_ble_eq_true rfl, Nat.le_of_ble_eq_true rfl⟩ ⟨(Nat.le_of_ble_eq_true rfl), (Nat.le_of_ble_eq_true rfl)⟩ rfl hl.1 rfl (Nat.le_of_ble_eq_true rfl) dX10_existingMessage_5 (fun v9 μ9 H locs hp hM hS => ?_)
  obtain ⟨ru5, rfl, e9, h⟩ := hp
  rw [e9] at hM
  refine W.cs (cells' := 0) (slots' := 0) rfl rfl ?_
  refine mz_astore_n (x := ru5) (lv' := [(2, va_rf ru5), (0, .ref o), (1, .int x1)]) S.1 S.2.1 dX10_existingMessage_8 rfl hl (by decide) rfl (fun ls hl => ?_)
  refine mz_aload_n (x := ru5) S.1 S.2.1 dX10_existingMessage_9 rfl (lv_at hl 0 rfl) ?_
  refine mz_ifnonnull (tgt := 23) S.1 S.2.1 dX10_existingMessage_10 (by decide) (fun a6 e7 => ?_) (fun e7 => ?_)
  · have h := h.2 a6 e7
    refine mz_aload_n (x := ru5) S.1 S.2.1 dX10_existingMessage_23 rfl (lv_at hl 0 rfl) ?_
    exact vx_ret (mz_aret (x := ru5) S hr (by first | exact Or.inl ⟨_, rfl⟩ | exact Or.inr ⟨_, rfl⟩) hlk hM hS (Nat.le_of_ble_eq_true rfl) (Nat.le_of_ble_eq_true rfl) dX10_existingMessage_24 ⟨_, rfl, rfl, h⟩)
  · have h := h.1 e7
    exact mz_throwN S hl0 hG hM hS hex hlk hl.1 xf_108_112 (j := 9) rfl dX10_existingMessage_13 dX10_existingMessage_16 dX10_existingMessage_17 dX10_existingMessage_19 dX10_existingMessage_22 (Nat.le_of_ble_eq_true rfl) (Nat.le_of_ble_eq_true rfl) (Nat.le_of_ble_eq_true rfl) (Nat.le_of_ble_eq_true rfl) (Nat.le_of_ble_eq_true rfl) (Nat.le_of_ble_eq_true rfl) ⟨rfl, h⟩
set_option maxRecDepth 100000 in
set_option maxHeartbeats 4000000 in
theorem c_X10_nestOf {l : Launch} {G : mgT} {μ : mmT} {o : Nat} {x1 : Int32} {Q : Int32 → Prop} {X : String → Prop} (hl0 : l.stackTraces = false) (h : w_X10_nestOf G μ o x1 Q X) : MX G l yX10_nestOf cX10_nestOf 2 (some .int) { frames := 7, cells := 1, slots := 6, locals := 122 } [.ref o, .int x1] μ (pI (fun r μ' => μ' = μ ∧ Q r)) (fun E μ' => μ' = μ ∧ X E) := by
  refine mz_MX (by decide +kernel) (Nat.le_of_ble_eq_true rfl) (fun p e s m args below meth c S hG hr hlk hnm hex => ?_)
  intro H locs ls hM hS hl
  have hl : lv_has ls 2 [(0, .ref o), (1, .int x1)] := hl
  unfold w_X10_nestOf at h
  refine lv_aload_n S.1 S.2.1 dX10_nestOf_0 rfl (lv_at hl 0 rfl) ?_
  refine lv_iload_n S.1 S.2.1 dX10_nestOf_1 rfl (lv_at hl 1 rfl) ?_
  obtain ⟨k1, h⟩ := h
  refine mz_VX S hG hM hS cf_9 k1 (As := [.int x1]) (rest := []) (c_X10_existingMessage hl0 h) yf_X10_existingMessage tw_1189 tw_1191 ts_13 ⟨Nat.le_of_ble_eq_true rfl, Nat.le_of_ble_eq_true rfl⟩ ⟨(Nat.le_of_ble_eq_true rfl), (Nat.le_of_ble_eq_true rfl)⟩ rfl hl.1 rfl (Nat.le_of_ble_eq_true rfl) dX10_nestOf_2 (fun E ce q9 μ9 H locs hp hM hS hc9 hv9 hcl9 => ?_) (fun v9 μ9 H locs hp hM hS => ?_)
  · obtain ⟨e9, h⟩ := hp
    rw [e9] at hM
    exact mz_out hex hlk hM hS hc9 hv9 hcl9 (Nat.le_of_ble_eq_true rfl) (Nat.le_of_ble_eq_true rfl) ⟨rfl, h⟩
  · obtain ⟨ru2, rfl, e9, h⟩ := hp
    rw [e9] at hM
    refine W.cs (cells' := 1) (slots' := 6) rfl rfl ?_
    obtain ⟨a3, e4, h⟩ := h
    refine mz_o0 e4 ?_
    obtain ⟨k5, h⟩ := h
    refine mz_geti S hG hM cf_4 fd_129 tw_168 dX10_nestOf_5 k5 ?_
    exact vx_ret (mz_iret S hr hlk hM hS rfl (Nat.le_of_ble_eq_true rfl) (Nat.le_of_ble_eq_true rfl) dX10_nestOf_8 ⟨_, rfl, rfl, h⟩)
set_option maxRecDepth 100000 in
set_option maxHeartbeats 4000000 in
theorem c_X10_keyOf {l : Launch} {G : mgT} {μ : mmT} {o : Nat} {x1 : Int32} {Q : Int32 → Prop} {X : String → Prop} (hl0 : l.stackTraces = false) (h : w_X10_keyOf G μ o x1 Q X) : MX G l yX10_keyOf cX10_keyOf 2 (some .int) { frames := 7, cells := 1, slots := 6, locals := 122 } [.ref o, .int x1] μ (pI (fun r μ' => μ' = μ ∧ Q r)) (fun E μ' => μ' = μ ∧ X E) := by
  refine mz_MX (by decide +kernel) (Nat.le_of_ble_eq_true rfl) (fun p e s m args below meth c S hG hr hlk hnm hex => ?_)
  intro H locs ls hM hS hl
  have hl : lv_has ls 2 [(0, .ref o), (1, .int x1)] := hl
  unfold w_X10_keyOf at h
  refine lv_aload_n S.1 S.2.1 dX10_keyOf_0 rfl (lv_at hl 0 rfl) ?_
  refine lv_iload_n S.1 S.2.1 dX10_keyOf_1 rfl (lv_at hl 1 rfl) ?_
  obtain ⟨k1, h⟩ := h
  refine mz_VX S hG hM hS cf_9 k1 (As := [.int x1]) (rest := []) (c_X10_existingMessage hl0 h) yf_X10_existingMessage tw_1189 tw_1191 ts_13 ⟨Nat.le_of_ble_eq_true rfl, Nat.le_of_ble_eq_true rfl⟩ ⟨(Nat.le_of_ble_eq_true rfl), (Nat.le_of_ble_eq_true rfl)⟩ rfl hl.1 rfl (Nat.le_of_ble_eq_true rfl) dX10_keyOf_2 (fun E ce q9 μ9 H locs hp hM hS hc9 hv9 hcl9 => ?_) (fun v9 μ9 H locs hp hM hS => ?_)
  · obtain ⟨e9, h⟩ := hp
    rw [e9] at hM
    exact mz_out hex hlk hM hS hc9 hv9 hcl9 (Nat.le_of_ble_eq_true rfl) (Nat.le_of_ble_eq_true rfl) ⟨rfl, h⟩
  · obtain ⟨ru2, rfl, e9, h⟩ := hp
    rw [e9] at hM
    refine W.cs (cells' := 1) (slots' := 6) rfl rfl ?_
    obtain ⟨a3, e4, h⟩ := h
    refine mz_o0 e4 ?_
    obtain ⟨k5, h⟩ := h
    refine mz_geti S hG hM cf_4 fd_130 tw_171 dX10_keyOf_5 k5 ?_
    exact vx_ret (mz_iret S hr hlk hM hS rfl (Nat.le_of_ble_eq_true rfl) (Nat.le_of_ble_eq_true rfl) dX10_keyOf_8 ⟨_, rfl, rfl, h⟩)
set_option maxRecDepth 100000 in
set_option maxHeartbeats 4000000 in
theorem c_X10_attempts {l : Launch} {G : mgT} {μ : mmT} {o : Nat} {x1 : Int32} {Q : Int32 → Prop} {X : String → Prop} (hl0 : l.stackTraces = false) (h : w_X10_attempts G μ o x1 Q X) : MX G l yX10_attempts cX10_attempts 2 (some .int) { frames := 7, cells := 1, slots := 6, locals := 122 } [.ref o, .int x1] μ (pI (fun r μ' => μ' = μ ∧ Q r)) (fun E μ' => μ' = μ ∧ X E) := by
  refine mz_MX (by decide +kernel) (Nat.le_of_ble_eq_true rfl) (fun p e s m args below meth c S hG hr hlk hnm hex => ?_)
  intro H locs ls hM hS hl
  have hl : lv_has ls 2 [(0, .ref o), (1, .int x1)] := hl
  unfold w_X10_attempts at h
  refine lv_aload_n S.1 S.2.1 dX10_attempts_0 rfl (lv_at hl 0 rfl) ?_
  refine lv_iload_n S.1 S.2.1 dX10_attempts_1 rfl (lv_at hl 1 rfl) ?_
  obtain ⟨k1, h⟩ := h
  refine mz_VX S hG hM hS cf_9 k1 (As := [.int x1]) (rest := []) (c_X10_existingMessage hl0 h) yf_X10_existingMessage tw_1189 tw_1191 ts_13 ⟨Nat.le_of_ble_eq_true rfl, Nat.le_of_ble_eq_true rfl⟩ ⟨(Nat.le_of_ble_eq_true rfl), (Nat.le_of_ble_eq_true rfl)⟩ rfl hl.1 rfl (Nat.le_of_ble_eq_true rfl) dX10_attempts_2 (fun E ce q9 μ9 H locs hp hM hS hc9 hv9 hcl9 => ?_) (fun v9 μ9 H locs hp hM hS => ?_)
  · obtain ⟨e9, h⟩ := hp
    rw [e9] at hM
    exact mz_out hex hlk hM hS hc9 hv9 hcl9 (Nat.le_of_ble_eq_true rfl) (Nat.le_of_ble_eq_true rfl) ⟨rfl, h⟩
  · obtain ⟨ru2, rfl, e9, h⟩ := hp
    rw [e9] at hM
    refine W.cs (cells' := 1) (slots' := 6) rfl rfl ?_
    obtain ⟨a3, e4, h⟩ := h
    refine mz_o0 e4 ?_
    obtain ⟨k5, h⟩ := h
    refine mz_geti S hG hM cf_4 fd_131 tw_174 dX10_attempts_5 k5 ?_
    exact vx_ret (mz_iret S hr hlk hM hS rfl (Nat.le_of_ble_eq_true rfl) (Nat.le_of_ble_eq_true rfl) dX10_attempts_8 ⟨_, rfl, rfl, h⟩)
set_option maxRecDepth 100000 in
set_option maxHeartbeats 4000000 in
theorem c_X10_status {l : Launch} {G : mgT} {μ : mmT} {o : Nat} {x1 : Int32} {Q : Int32 → Prop} {X : String → Prop} (hl0 : l.stackTraces = false) (h : w_X10_status G μ o x1 Q X) : MX G l yX10_status cX10_status 2 (some .char) { frames := 7, cells := 1, slots := 6, locals := 122 } [.ref o, .int x1] μ (pI (fun r μ' => μ' = μ ∧ Q r)) (fun E μ' => μ' = μ ∧ X E) := by
  refine mz_MX (by decide +kernel) (Nat.le_of_ble_eq_true rfl) (fun p e s m args below meth c S hG hr hlk hnm hex => ?_)
  intro H locs ls hM hS hl
  have hl : lv_has ls 2 [(0, .ref o), (1, .int x1)] := hl
  unfold w_X10_status at h
  refine lv_aload_n S.1 S.2.1 dX10_status_0 rfl (lv_at hl 0 rfl) ?_
  refine lv_iload_n S.1 S.2.1 dX10_status_1 rfl (lv_at hl 1 rfl) ?_
  obtain ⟨k1, h⟩ := h
  refine mz_VX S hG hM hS cf_9 k1 (As := [.int x1]) (rest := []) (c_X10_existingMessage hl0 h) yf_X10_existingMessage tw_1189 tw_1191 ts_13 ⟨Nat.le_of_ble_eq_true rfl, Nat.le_of_ble_eq_true rfl⟩ ⟨(Nat.le_of_ble_eq_true rfl), (Nat.le_of_ble_eq_true rfl)⟩ rfl hl.1 rfl (Nat.le_of_ble_eq_true rfl) dX10_status_2 (fun E ce q9 μ9 H locs hp hM hS hc9 hv9 hcl9 => ?_) (fun v9 μ9 H locs hp hM hS => ?_)
  · obtain ⟨e9, h⟩ := hp
    rw [e9] at hM
    exact mz_out hex hlk hM hS hc9 hv9 hcl9 (Nat.le_of_ble_eq_true rfl) (Nat.le_of_ble_eq_true rfl) ⟨rfl, h⟩
  · obtain ⟨ru2, rfl, e9, h⟩ := hp
    rw [e9] at hM
    refine W.cs (cells' := 1) (slots' := 6) rfl rfl ?_
    obtain ⟨a3, e4, h⟩ := h
    refine mz_o0 e4 ?_
    obtain ⟨k5, h⟩ := h
    refine mz_geti S hG hM cf_4 fd_132 tw_177 dX10_status_5 k5 ?_
    obtain ⟨f6, h⟩ := h
    exact vx_ret (mz_iret S hr hlk hM hS (mz_nC f6) (Nat.le_of_ble_eq_true rfl) (Nat.le_of_ble_eq_true rfl) dX10_status_8 ⟨_, rfl, rfl, h⟩)
set_option maxRecDepth 100000 in
set_option maxHeartbeats 4000000 in
theorem c_X10_napMinutes {l : Launch} {G : mgT} {μ : mmT} {o : Nat} {x1 : Int32} {Q : Int32 → Prop} {X : String → Prop} (hl0 : l.stackTraces = false) (h : w_X10_napMinutes G μ o x1 Q X) : MX G l yX10_napMinutes cX10_napMinutes 3 (some .int) { frames := 7, cells := 2, slots := 12, locals := 122 } [.ref o, .int x1] μ (pI (fun r μ' => μ' = μ ∧ Q r)) (fun E μ' => μ' = μ ∧ X E) := by
  refine mz_MX (by decide +kernel) (Nat.le_of_ble_eq_true rfl) (fun p e s m args below meth c S hG hr hlk hnm hex => ?_)
  intro H locs ls hM hS hl
  have hl : lv_has ls 3 [(0, .ref o), (1, .int x1)] := hl
  unfold w_X10_napMinutes at h
  refine lv_aload_n S.1 S.2.1 dX10_napMinutes_0 rfl (lv_at hl 0 rfl) ?_
  refine lv_iload_n S.1 S.2.1 dX10_napMinutes_1 rfl (lv_at hl 1 rfl) ?_
  obtain ⟨k1, h⟩ := h
  refine mz_VX S hG hM hS cf_9 k1 (As := [.int x1]) (rest := []) (c_X10_existingMessage hl0 h) yf_X10_existingMessage tw_1189 tw_1191 ts_13 ⟨Nat.le_of_ble_eq_true rfl, Nat.le_of_ble_eq_true rfl⟩ ⟨(Nat.le_of_ble_eq_true rfl), (Nat.le_of_ble_eq_true rfl)⟩ rfl hl.1 rfl (Nat.le_of_ble_eq_true rfl) dX10_napMinutes_2 (fun E ce q9 μ9 H locs hp hM hS hc9 hv9 hcl9 => ?_) (fun v9 μ9 H locs hp hM hS => ?_)
  · obtain ⟨e9, h⟩ := hp
    rw [e9] at hM
    exact mz_out hex hlk hM hS hc9 hv9 hcl9 (Nat.le_of_ble_eq_true rfl) (Nat.le_of_ble_eq_true rfl) ⟨rfl, h⟩
  · obtain ⟨ru2, rfl, e9, h⟩ := hp
    rw [e9] at hM
    refine W.cs (cells' := 1) (slots' := 6) rfl rfl ?_
    refine mz_astore_n (x := ru2) (lv' := [(2, va_rf ru2), (0, .ref o), (1, .int x1)]) S.1 S.2.1 dX10_napMinutes_5 rfl hl (by decide) rfl (fun ls hl => ?_)
    refine mz_aload_n (x := ru2) S.1 S.2.1 dX10_napMinutes_6 rfl (lv_at hl 0 rfl) ?_
    obtain ⟨a3, e4, h⟩ := h
    refine mz_o0 e4 ?_
    obtain ⟨k5, h⟩ := h
    refine mz_geti S hG hM cf_4 fd_132 tw_177 dX10_napMinutes_7 k5 ?_
    refine lv_bipush (v := (nI 110)) S.1 S.2.1 dX10_napMinutes_10 (by decide) ?_
    refine lv_icmp_eq (tgt := 25) S.1 S.2.1 dX10_napMinutes_12 (by decide) (fun c6 => ?_) (fun c6 => ?_)
    · have h := h.1 c6
      refine mz_aload_n (x := ru2) S.1 S.2.1 dX10_napMinutes_25 rfl (lv_at hl 0 rfl) ?_
      refine mz_o0 e4 ?_
      refine mz_geti S hG hM cf_4 fd_133 tw_180 dX10_napMinutes_26 k5 ?_
      refine lv_aload_n S.1 S.2.1 dX10_napMinutes_29 rfl (lv_at hl 1 rfl) ?_
      refine mz_getr S hG hM cf_9 fd_288 tw_347 dX10_napMinutes_30 k1 ?_
      obtain ⟨a7, e8, h⟩ := h
      refine mz_o0 e8 ?_
      obtain ⟨k9, h⟩ := h
      refine mz_geti S hG hM cf_7 fd_231 tw_208 dX10_napMinutes_33 k9 ?_
      refine lv_isub S.1 S.2.1 dX10_napMinutes_36 ?_
      exact vx_ret (mz_iret S hr hlk hM hS rfl (Nat.le_of_ble_eq_true rfl) (Nat.le_of_ble_eq_true rfl) dX10_napMinutes_37 ⟨_, rfl, rfl, h⟩)
    · have h := h.2 c6
      exact mz_throw S hl0 hG hM hS hex hlk hl.1 xf_98_102 (j := 14) rfl dX10_napMinutes_15 dX10_napMinutes_18 dX10_napMinutes_19 dX10_napMinutes_21 dX10_napMinutes_24 (Nat.le_of_ble_eq_true rfl) (Nat.le_of_ble_eq_true rfl) (Nat.le_of_ble_eq_true rfl) (Nat.le_of_ble_eq_true rfl) (Nat.le_of_ble_eq_true rfl) (Nat.le_of_ble_eq_true rfl) ⟨rfl, h⟩
set_option maxRecDepth 100000 in
set_option maxHeartbeats 4000000 in
theorem c_X10_waitingMessage {l : Launch} {G : mgT} {μ : mmT} {o : Nat} {x1 : Int32} {Q : Int32 → Prop} {X : String → Prop} (hl0 : l.stackTraces = false) (h : w_X10_waitingMessage G μ o x1 Q X) : MX G l yX10_waitingMessage cX10_waitingMessage 3 (some .int) { frames := 6, cells := 1, slots := 6, locals := 100 } [.ref o, .int x1] μ (pI (fun r μ' => μ' = μ ∧ Q r)) (fun E μ' => μ' = μ ∧ X E) := by
  refine mz_MX (by decide +kernel) (Nat.le_of_ble_eq_true rfl) (fun p e s m args below meth c S hG hr hlk hnm hex => ?_)
  intro H locs ls hM hS hl
  have hl : lv_has ls 3 [(0, .ref o), (1, .int x1)] := hl
  unfold w_X10_waitingMessage at h
  refine lv_aload_n S.1 S.2.1 dX10_waitingMessage_0 rfl (lv_at hl 0 rfl) ?_
  obtain ⟨k1, h⟩ := h
  refine mz_getr S hG hM cf_9 fd_288 tw_347 dX10_waitingMessage_1 k1 ?_
  refine lv_iload_n S.1 S.2.1 dX10_waitingMessage_4 rfl (lv_at hl 1 rfl) ?_
  obtain ⟨a2, e3, h⟩ := h
  refine mz_o1 e3 ?_
  obtain ⟨k4, h⟩ := h
  refine mz_V S hG hM hS cf_7 k4 (As := [.int x1]) (rest := []) (c_X8_waitingAtRank h) yf_X8_waitingAtRank tw_1230 tw_1072 tw_1073 ⟨Nat.le_of_ble_eq_true rfl, Nat.le_of_ble_eq_true rfl⟩ ⟨(Nat.le_of_ble_eq_true rfl), (Nat.le_of_ble_eq_true rfl)⟩ rfl hl.1 rfl (Nat.le_of_ble_eq_true rfl) dX10_waitingMessage_5 (fun v9 μ9 H locs hp hM hS => ?_)
  obtain ⟨ru5, rfl, e9, h⟩ := hp
  rw [e9] at hM
  refine W.cs (cells' := 0) (slots' := 0) rfl rfl ?_
  refine mz_astore_n (x := ru5) (lv' := [(2, va_rf ru5), (0, .ref o), (1, .int x1)]) S.1 S.2.1 dX10_waitingMessage_8 rfl hl (by decide) rfl (fun ls hl => ?_)
  refine mz_aload_n (x := ru5) S.1 S.2.1 dX10_waitingMessage_9 rfl (lv_at hl 0 rfl) ?_
  refine mz_ifnonnull (tgt := 23) S.1 S.2.1 dX10_waitingMessage_10 (by decide) (fun a6 e7 => ?_) (fun e7 => ?_)
  · have h := h.2 a6 e7
    refine mz_aload_n (x := ru5) S.1 S.2.1 dX10_waitingMessage_23 rfl (lv_at hl 0 rfl) ?_
    refine mz_o0 e7 ?_
    obtain ⟨k8, h⟩ := h
    refine mz_geti S hG hM cf_4 fd_128 tw_165 dX10_waitingMessage_24 k8 ?_
    exact vx_ret (mz_iret S hr hlk hM hS rfl (Nat.le_of_ble_eq_true rfl) (Nat.le_of_ble_eq_true rfl) dX10_waitingMessage_27 ⟨_, rfl, rfl, h⟩)
  · have h := h.1 e7
    exact mz_throwN S hl0 hG hM hS hex hlk hl.1 xf_108_112 (j := 11) rfl dX10_waitingMessage_13 dX10_waitingMessage_16 dX10_waitingMessage_17 dX10_waitingMessage_19 dX10_waitingMessage_22 (Nat.le_of_ble_eq_true rfl) (Nat.le_of_ble_eq_true rfl) (Nat.le_of_ble_eq_true rfl) (Nat.le_of_ble_eq_true rfl) (Nat.le_of_ble_eq_true rfl) (Nat.le_of_ble_eq_true rfl) ⟨rfl, h⟩
set_option maxRecDepth 100000 in
set_option maxHeartbeats 4000000 in
theorem c_X10_wouldBeLost {l : Launch} {G : mgT} {μ : mmT} {o : Nat} {x1 : Int32} {Q : Int32 → Prop} {X : String → Prop} (hl0 : l.stackTraces = false) (h : w_X10_wouldBeLost G μ o x1 Q X) : MX G l yX10_wouldBeLost cX10_wouldBeLost 3 (some .boolean) { frames := 7, cells := 2, slots := 12, locals := 122 } [.ref o, .int x1] μ (pI (fun r μ' => μ' = μ ∧ Q r)) (fun E μ' => μ' = μ ∧ X E) := by
  refine mz_MX (by decide +kernel) (Nat.le_of_ble_eq_true rfl) (fun p e s m args below meth c S hG hr hlk hnm hex => ?_)
  intro H locs ls hM hS hl
  have hl : lv_has ls 3 [(0, .ref o), (1, .int x1)] := hl
  unfold w_X10_wouldBeLost at h
  refine lv_aload_n S.1 S.2.1 dX10_wouldBeLost_0 rfl (lv_at hl 0 rfl) ?_
  refine lv_iload_n S.1 S.2.1 dX10_wouldBeLost_1 rfl (lv_at hl 1 rfl) ?_
  obtain ⟨k1, h⟩ := h
  refine mz_VX S hG hM hS cf_9 k1 (As := [.int x1]) (rest := []) (c_X10_existingMessage hl0 h) yf_X10_existingMessage tw_1189 tw_1191 ts_13 ⟨Nat.le_of_ble_eq_true rfl, Nat.le_of_ble_eq_true rfl⟩ ⟨(Nat.le_of_ble_eq_true rfl), (Nat.le_of_ble_eq_true rfl)⟩ rfl hl.1 rfl (Nat.le_of_ble_eq_true rfl) dX10_wouldBeLost_2 (fun E ce q9 μ9 H locs hp hM hS hc9 hv9 hcl9 => ?_) (fun v9 μ9 H locs hp hM hS => ?_)
  · obtain ⟨e9, h⟩ := hp
    rw [e9] at hM
    exact mz_out hex hlk hM hS hc9 hv9 hcl9 (Nat.le_of_ble_eq_true rfl) (Nat.le_of_ble_eq_true rfl) ⟨rfl, h⟩
  · obtain ⟨ru2, rfl, e9, h⟩ := hp
    rw [e9] at hM
    refine W.cs (cells' := 1) (slots' := 6) rfl rfl ?_
    refine mz_astore_n (x := ru2) (lv' := [(2, va_rf ru2), (0, .ref o), (1, .int x1)]) S.1 S.2.1 dX10_wouldBeLost_5 rfl hl (by decide) rfl (fun ls hl => ?_)
    refine mz_aload_n (x := ru2) S.1 S.2.1 dX10_wouldBeLost_6 rfl (lv_at hl 0 rfl) ?_
    obtain ⟨a3, e4, h⟩ := h
    refine mz_o0 e4 ?_
    obtain ⟨k5, h⟩ := h
    refine mz_geti S hG hM cf_4 fd_132 tw_177 dX10_wouldBeLost_7 k5 ?_
    refine lv_bipush (v := (nI 100)) S.1 S.2.1 dX10_wouldBeLost_10 (by decide) ?_
    refine lv_icmp_ne (tgt := 25) S.1 S.2.1 dX10_wouldBeLost_12 (by decide) (fun c6 => ?_) (fun c6 => ?_)
    · have h := h.1 c6
      refine lv_aload_n S.1 S.2.1 dX10_wouldBeLost_25 rfl (lv_at hl 1 rfl) ?_
      refine mz_getr S hG hM cf_9 fd_288 tw_347 dX10_wouldBeLost_26 k1 ?_
      refine mz_aload_n (x := ru2) S.1 S.2.1 dX10_wouldBeLost_29 rfl (lv_at hl 0 rfl) ?_
      refine mz_aload_n (x := ru2) S.1 S.2.1 dX10_wouldBeLost_30 rfl (lv_at hl 0 rfl) ?_
      refine mz_o0 e4 ?_
      refine mz_geti S hG hM cf_4 fd_131 tw_174 dX10_wouldBeLost_31 k5 ?_
      refine lv_iconst (v := (nI 1)) S.1 S.2.1 dX10_wouldBeLost_34 (by decide) ?_
      refine lv_iadd S.1 S.2.1 dX10_wouldBeLost_35 ?_
      obtain ⟨a7, e8, h⟩ := h
      refine mz_o2 e8 ?_
      obtain ⟨k9, h⟩ := h
      refine mz_V S hG hM hS cf_7 k9 (As := [va_rf ru2, .int ((mI μ 131 a3) + (nI 1))]) (rest := []) (c_X8_isLost h) yf_X8_isLost tw_1239 tw_1042 tw_1043 ⟨Nat.le_of_ble_eq_true rfl, Nat.le_of_ble_eq_true rfl⟩ ⟨(Nat.le_of_ble_eq_true rfl), (Nat.le_of_ble_eq_true rfl)⟩ rfl hl.1 rfl (Nat.le_of_ble_eq_true rfl) dX10_wouldBeLost_36 (fun v9 μ9 H locs hp hM hS => ?_)
      obtain ⟨u10, rfl, e9, h⟩ := hp
      rw [e9] at hM
      refine W.cs (cells' := 1) (slots' := 6) rfl rfl ?_
      obtain ⟨f11, h⟩ := h
      exact vx_ret (mz_iret S hr hlk hM hS (mz_nZ f11) (Nat.le_of_ble_eq_true rfl) (Nat.le_of_ble_eq_true rfl) dX10_wouldBeLost_39 ⟨_, rfl, rfl, h⟩)
    · have h := h.2 c6
      exact mz_throw S hl0 hG hM hS hex hlk hl.1 xf_98_102 (j := 15) rfl dX10_wouldBeLost_15 dX10_wouldBeLost_18 dX10_wouldBeLost_19 dX10_wouldBeLost_21 dX10_wouldBeLost_24 (Nat.le_of_ble_eq_true rfl) (Nat.le_of_ble_eq_true rfl) (Nat.le_of_ble_eq_true rfl) (Nat.le_of_ble_eq_true rfl) (Nat.le_of_ble_eq_true rfl) (Nat.le_of_ble_eq_true rfl) ⟨rfl, h⟩
set_option maxRecDepth 100000 in
set_option maxHeartbeats 4000000 in
theorem c_X10_napLength {l : Launch} {G : mgT} {μ : mmT} {o : Nat} {x1 : Int32} {Q : Int64 → Prop} {X : String → Prop} (hl0 : l.stackTraces = false) (h : w_X10_napLength G μ o x1 Q X) : MX G l yX10_napLength cX10_napLength 2 (some .long) { frames := 6, cells := 1, slots := 6, locals := 100 } [.ref o, .int x1] μ (pL (fun r μ' => μ' = μ ∧ Q r)) (fun E μ' => μ' = μ ∧ X E) := by
  refine mz_MX (by decide +kernel) (Nat.le_of_ble_eq_true rfl) (fun p e s m args below meth c S hG hr hlk hnm hex => ?_)
  have hB10 : ∀  (H : Heap) (locs : List Loc) (ls : Array Slot), Mm G μ H → va_S (Ah G) s.heap H locs → lv_has ls 2 [(0, .ref o)] → w_X10_napLength_b10 G μ o Q X   → W p l e { frames := 6, cells := 1, slots := 6, locals := 100 } s m args below meth c H locs 0 0 (vx_MQ below (mQ G (pL (fun r μ' => μ' = μ ∧ Q r))) (mX G (fun E μ' => μ' = μ ∧ X E)) args s 1 6 (Ah G)) (F0 m 10 ls []) := by
    intro   H locs ls hM hS hl h
    unfold w_X10_napLength_b10 at h
    exact mz_throw S hl0 hG hM hS hex hlk hl.1 xf_91_95 (j := 16) rfl dX10_napLength_10 dX10_napLength_13 dX10_napLength_14 dX10_napLength_16 dX10_napLength_19 (Nat.le_of_ble_eq_true rfl) (Nat.le_of_ble_eq_true rfl) (Nat.le_of_ble_eq_true rfl) (Nat.le_of_ble_eq_true rfl) (Nat.le_of_ble_eq_true rfl) (Nat.le_of_ble_eq_true rfl) ⟨rfl, h⟩
  intro H locs ls hM hS hl
  have hl : lv_has ls 2 [(0, .ref o), (1, .int x1)] := hl
  unfold w_X10_napLength at h
  refine lv_iload_n S.1 S.2.1 dX10_napLength_0 rfl (lv_at hl 1 rfl) ?_
  refine lv_if_lt (tgt := 10) S.1 S.2.1 dX10_napLength_1 (by decide) (fun c1 => ?_) (fun c1 => ?_)
  · have h := h.1 c1
    exact hB10   H locs ls hM hS (lv_sub hl [0] rfl) h
  · have h := h.2 c1
    refine lv_iload_n S.1 S.2.1 dX10_napLength_4 rfl (lv_at hl 1 rfl) ?_
    refine lv_bipush (v := (nI 40)) S.1 S.2.1 dX10_napLength_5 (by decide) ?_
    refine lv_icmp_le (tgt := 20) S.1 S.2.1 dX10_napLength_7 (by decide) (fun c2 => ?_) (fun c2 => ?_)
    · have h := h.1 c2
      refine lv_iload_n S.1 S.2.1 dX10_napLength_20 rfl (lv_at hl 1 rfl) ?_
      refine mz_S S hG hM hS (As := [.int x1]) (rest := []) (c_X10_shiftedNap h) yf_X10_shiftedNap tw_437 tw_438 ⟨Nat.le_of_ble_eq_true rfl, Nat.le_of_ble_eq_true rfl⟩ ⟨(Nat.le_of_ble_eq_true rfl), (Nat.le_of_ble_eq_true rfl)⟩ rfl hl.1 rfl (Nat.le_of_ble_eq_true rfl) dX10_napLength_21 (fun v9 μ9 H locs hp hM hS => ?_)
      obtain ⟨u3, rfl, e9, h⟩ := hp
      rw [e9] at hM
      refine W.cs (cells' := 0) (slots' := 0) rfl rfl ?_
      exact vx_ret (mz_lret S hr hlk hM hS (Nat.le_of_ble_eq_true rfl) (Nat.le_of_ble_eq_true rfl) dX10_napLength_24 ⟨_, rfl, rfl, h⟩)
    · have h := h.2 c2
      exact hB10   H locs ls hM hS (lv_sub hl [0] rfl) h
set_option maxRecDepth 100000 in
set_option maxHeartbeats 4000000 in
theorem c_X10_doubledNap {l : Launch} {G : mgT} {μ : mmT} {x0 : Int32} {Q : Int64 → Prop} (h : w_X10_doubledNap G μ x0 Q) : MC G l yX10_doubledNap cX10_doubledNap 4 (some .long) { frames := 0, cells := 0, slots := 0, locals := 0 } [.int x0] μ (pL (fun r μ' => μ' = μ ∧ Q r)) := by
  refine mz_MC (by decide +kernel) (Nat.le_of_ble_eq_true rfl) (fun p e s m args below meth c S hG hr hlk hnm => ?_)
  have hB4 : ∀ (n : Nat) (x0 : Int32) (x1 : Int64) (x3 : Int32) (H : Heap) (locs : List Loc) (ls : Array Slot), Mm G μ H → va_S (Ah G) s.heap H locs → lv_has ls 4 [(0, .int x0), (1, .long x1), (3, .int x3)] → w_X10_doubledNap_l4 G μ Q  n x0 x1 x3 → W p l e { frames := 0, cells := 0, slots := 0, locals := 0 } s m args below meth c H locs 0 0 (MQ below (mQ G (pL (fun r μ' => μ' = μ ∧ Q r))) args s 0 0 (Ah G)) (F0 m 4 ls []) := by
    intro  n
    induction n with
    | zero =>
      intro x0 x1 x3 H locs ls hM hS hl h
      exact False.elim h
    | succ n ih =>
      intro x0 x1 x3 H locs ls hM hS hl h
      have h : w_X10_doubledNap_b4 G μ Q  (w_X10_doubledNap_l4 G μ Q  n) x0 x1 x3 := h
      unfold w_X10_doubledNap_b4 at h
      refine lv_iload_n S.1 S.2.1 dX10_doubledNap_4 rfl (lv_at hl 2 rfl) ?_
      refine lv_iload_n S.1 S.2.1 dX10_doubledNap_5 rfl (lv_at hl 0 rfl) ?_
      refine lv_icmp_ge (tgt := 19) S.1 S.2.1 dX10_doubledNap_6 (by decide) (fun c1 => ?_) (fun c1 => ?_)
      · have h := h.1 c1
        refine lv_lload_n S.1 S.2.1 dX10_doubledNap_19 rfl (lv_at hl 1 rfl) ?_
        exact mz_lret S hr hlk hM hS (Nat.le_of_ble_eq_true rfl) (Nat.le_of_ble_eq_true rfl) dX10_doubledNap_20 ⟨_, rfl, rfl, h⟩
      · have h := h.2 c1
        refine lv_lload_n S.1 S.2.1 dX10_doubledNap_9 rfl (lv_at hl 1 rfl) ?_
        refine lv_lload_n S.1 S.2.1 dX10_doubledNap_10 rfl (lv_at hl 1 rfl) ?_
        refine lv_ladd S.1 S.2.1 dX10_doubledNap_11 ?_
        refine lv_lstore_n (lv' := [(1, .long (x1 + x1)), (0, .int x0), (3, .int x3)]) S.1 S.2.1 dX10_doubledNap_12 rfl hl (by decide) rfl (fun ls hl => ?_)
        refine lv_iinc (v := (x3 + nI 1)) (lv' := [(3, .int (x3 + nI 1)), (1, .long (x1 + x1)), (0, .int x0)]) S.1 S.2.1 dX10_doubledNap_13 hl (k := 2) rfl rfl (by decide) rfl (fun ls hl => ?_)
        refine lv_goto (tgt := 4) S.1 S.2.1 dX10_doubledNap_16 (by decide) ?_
        exact ih x0 (x1 + x1) (x3 + nI 1) H locs ls hM hS (lv_sub hl [2, 1, 0] rfl) h
  intro H locs ls hM hS hl
  have hl : lv_has ls 4 [(0, .int x0)] := hl
  unfold w_X10_doubledNap at h
  refine lv_lconst (v := lN 1) S.1 S.2.1 dX10_doubledNap_0 rfl ?_
  refine lv_lstore_n (lv' := [(1, .long (lN 1)), (0, .int x0)]) S.1 S.2.1 dX10_doubledNap_1 rfl hl (by decide) rfl (fun ls hl => ?_)
  refine lv_iconst (v := (nI 0)) S.1 S.2.1 dX10_doubledNap_2 (by decide) ?_
  refine lv_istore_n (lv' := [(3, .int (nI 0)), (1, .long (lN 1)), (0, .int x0)]) S.1 S.2.1 dX10_doubledNap_3 rfl hl (by decide) rfl (fun ls hl => ?_)
  obtain ⟨n9, h⟩ := h
  exact hB4  n9 x0 (lN 1) (nI 0) H locs ls hM hS (lv_sub hl [2, 1, 0] rfl) h
set_option maxRecDepth 100000 in
set_option maxHeartbeats 4000000 in
theorem c_X10_napLengthByDoubling {l : Launch} {G : mgT} {μ : mmT} {o : Nat} {x1 : Int32} {Q : Int64 → Prop} {X : String → Prop} (hl0 : l.stackTraces = false) (h : w_X10_napLengthByDoubling G μ o x1 Q X) : MX G l yX10_napLengthByDoubling cX10_napLengthByDoubling 2 (some .long) { frames := 6, cells := 1, slots := 6, locals := 100 } [.ref o, .int x1] μ (pL (fun r μ' => μ' = μ ∧ Q r)) (fun E μ' => μ' = μ ∧ X E) := by
  refine mz_MX (by decide +kernel) (Nat.le_of_ble_eq_true rfl) (fun p e s m args below meth c S hG hr hlk hnm hex => ?_)
  have hB10 : ∀  (H : Heap) (locs : List Loc) (ls : Array Slot), Mm G μ H → va_S (Ah G) s.heap H locs → lv_has ls 2 [(0, .ref o)] → w_X10_napLengthByDoubling_b10 G μ o Q X   → W p l e { frames := 6, cells := 1, slots := 6, locals := 100 } s m args below meth c H locs 0 0 (vx_MQ below (mQ G (pL (fun r μ' => μ' = μ ∧ Q r))) (mX G (fun E μ' => μ' = μ ∧ X E)) args s 1 6 (Ah G)) (F0 m 10 ls []) := by
    intro   H locs ls hM hS hl h
    unfold w_X10_napLengthByDoubling_b10 at h
    exact mz_throw S hl0 hG hM hS hex hlk hl.1 xf_91_95 (j := 16) rfl dX10_napLengthByDoubling_10 dX10_napLengthByDoubling_13 dX10_napLengthByDoubling_14 dX10_napLengthByDoubling_16 dX10_napLengthByDoubling_19 (Nat.le_of_ble_eq_true rfl) (Nat.le_of_ble_eq_true rfl) (Nat.le_of_ble_eq_true rfl) (Nat.le_of_ble_eq_true rfl) (Nat.le_of_ble_eq_true rfl) (Nat.le_of_ble_eq_true rfl) ⟨rfl, h⟩
  intro H locs ls hM hS hl
  have hl : lv_has ls 2 [(0, .ref o), (1, .int x1)] := hl
  unfold w_X10_napLengthByDoubling at h
  refine lv_iload_n S.1 S.2.1 dX10_napLengthByDoubling_0 rfl (lv_at hl 1 rfl) ?_
  refine lv_if_lt (tgt := 10) S.1 S.2.1 dX10_napLengthByDoubling_1 (by decide) (fun c1 => ?_) (fun c1 => ?_)
  · have h := h.1 c1
    exact hB10   H locs ls hM hS (lv_sub hl [0] rfl) h
  · have h := h.2 c1
    refine lv_iload_n S.1 S.2.1 dX10_napLengthByDoubling_4 rfl (lv_at hl 1 rfl) ?_
    refine lv_bipush (v := (nI 40)) S.1 S.2.1 dX10_napLengthByDoubling_5 (by decide) ?_
    refine lv_icmp_le (tgt := 20) S.1 S.2.1 dX10_napLengthByDoubling_7 (by decide) (fun c2 => ?_) (fun c2 => ?_)
    · have h := h.1 c2
      refine lv_iload_n S.1 S.2.1 dX10_napLengthByDoubling_20 rfl (lv_at hl 1 rfl) ?_
      refine mz_S S hG hM hS (As := [.int x1]) (rest := []) (c_X10_doubledNap h) yf_X10_doubledNap tw_440 tw_441 ⟨Nat.le_of_ble_eq_true rfl, Nat.le_of_ble_eq_true rfl⟩ ⟨(Nat.le_of_ble_eq_true rfl), (Nat.le_of_ble_eq_true rfl)⟩ rfl hl.1 rfl (Nat.le_of_ble_eq_true rfl) dX10_napLengthByDoubling_21 (fun v9 μ9 H locs hp hM hS => ?_)
      obtain ⟨u3, rfl, e9, h⟩ := hp
      rw [e9] at hM
      refine W.cs (cells' := 0) (slots' := 0) rfl rfl ?_
      exact vx_ret (mz_lret S hr hlk hM hS (Nat.le_of_ble_eq_true rfl) (Nat.le_of_ble_eq_true rfl) dX10_napLengthByDoubling_24 ⟨_, rfl, rfl, h⟩)
    · have h := h.2 c2
      exact hB10   H locs ls hM hS (lv_sub hl [0] rfl) h
set_option maxRecDepth 100000 in
set_option maxHeartbeats 4000000 in
theorem c_X10_foreseenMinutes {l : Launch} {G : mgT} {μ : mmT} {o : Nat} {x1 : Int32} {Q : Int32 → mmT → Prop} (h : w_X10_foreseenMinutes G μ o x1 Q) : MC G l yX10_foreseenMinutes cX10_foreseenMinutes 4 (some .int) { frames := 6, cells := 0, slots := 0, locals := 172 } [.ref o, .int x1] μ (pI Q) := by
  refine mz_MC (by decide +kernel) (Nat.le_of_ble_eq_true rfl) (fun p e s m args below meth c S hG hr hlk hnm => ?_)
  have hB13 : ∀ (n : Nat) (x1 : Int32) (x2 : Int32) (μ : mmT) (H : Heap) (locs : List Loc) (ls : Array Slot), Mm G μ H → va_S (Ah G) s.heap H locs → lv_has ls 4 [(0, .ref o), (1, .int x1), (2, .int x2)] → w_X10_foreseenMinutes_l13 G o Q  n x1 x2 μ → W p l e { frames := 6, cells := 0, slots := 0, locals := 172 } s m args below meth c H locs 0 0 (MQ below (mQ G (pI Q)) args s 0 0 (Ah G)) (F0 m 13 ls []) := by
    intro  n
    induction n with
    | zero =>
      intro x1 x2 μ H locs ls hM hS hl h
      exact False.elim h
    | succ n ih =>
      intro x1 x2 μ H locs ls hM hS hl h
      have h : w_X10_foreseenMinutes_b13 G o Q  (w_X10_foreseenMinutes_l13 G o Q  n) x1 x2 μ := h
      unfold w_X10_foreseenMinutes_b13 at h
      refine lv_iload_n S.1 S.2.1 dX10_foreseenMinutes_13 rfl (lv_at hl 2 rfl) ?_
      refine lv_bipush (v := (nI 100)) S.1 S.2.1 dX10_foreseenMinutes_14 (by decide) ?_
      refine lv_icmp_gt (tgt := 60) S.1 S.2.1 dX10_foreseenMinutes_16 (by decide) (fun c6 => ?_) (fun c6 => ?_)
      · have h := h.1 c6
        refine lv_iconst (v := (-1)) S.1 S.2.1 dX10_foreseenMinutes_60 (by decide) ?_
        exact mz_iret S hr hlk hM hS rfl (Nat.le_of_ble_eq_true rfl) (Nat.le_of_ble_eq_true rfl) dX10_foreseenMinutes_61 ⟨_, rfl, h⟩
      · have h := h.2 c6
        refine lv_aload_n S.1 S.2.1 dX10_foreseenMinutes_19 rfl (lv_at hl 0 rfl) ?_
        obtain ⟨k7, h⟩ := h
        refine mz_getr S hG hM cf_9 fd_290 tw_349 dX10_foreseenMinutes_20 k7 ?_
        refine lv_iconst (v := (nI 1)) S.1 S.2.1 dX10_foreseenMinutes_23 (by decide) ?_
        obtain ⟨a8, e9, h⟩ := h
        refine mz_o1 e9 ?_
        obtain ⟨k10, h⟩ := h
        refine mz_V S hG hM hS cf_7 k10 (As := [.int (nI 1)]) (rest := []) (c_X8_pass h) yf_X8_pass tw_1029 tw_1030 tw_1031 ⟨Nat.le_of_ble_eq_true rfl, Nat.le_of_ble_eq_true rfl⟩ ⟨(Nat.le_of_ble_eq_true rfl), (Nat.le_of_ble_eq_true rfl)⟩ rfl hl.1 rfl (Nat.le_of_ble_eq_true rfl) dX10_foreseenMinutes_24 (fun v9 μ12 H locs hp hM hS => ?_)
        obtain ⟨u11, rfl, h⟩ := hp
        refine W.cs (cells' := 0) (slots' := 0) rfl rfl ?_
        refine lv_pop S.1 S.2.1 dX10_foreseenMinutes_27 rfl ?_
        refine lv_aload_n S.1 S.2.1 dX10_foreseenMinutes_28 rfl (lv_at hl 0 rfl) ?_
        obtain ⟨k13, h⟩ := h
        refine mz_getr S hG hM cf_9 fd_290 tw_349 dX10_foreseenMinutes_29 k13 ?_
        refine lv_iload_n S.1 S.2.1 dX10_foreseenMinutes_32 rfl (lv_at hl 1 rfl) ?_
        obtain ⟨a14, e15, h⟩ := h
        refine mz_o1 e15 ?_
        obtain ⟨k16, h⟩ := h
        refine mz_V S hG hM hS cf_7 k16 (As := [.int x1]) (rest := []) (c_X8_messageWith h) yf_X8_messageWith tw_1193 tw_997 tw_998 ⟨Nat.le_of_ble_eq_true rfl, Nat.le_of_ble_eq_true rfl⟩ ⟨(Nat.le_of_ble_eq_true rfl), (Nat.le_of_ble_eq_true rfl)⟩ rfl hl.1 rfl (Nat.le_of_ble_eq_true rfl) dX10_foreseenMinutes_33 (fun v9 μ9 H locs hp hM hS => ?_)
        obtain ⟨ru17, rfl, e9, h⟩ := hp
        rw [e9] at hM
        refine W.cs (cells' := 0) (slots' := 0) rfl rfl ?_
        refine mz_astore_n (x := ru17) (lv' := [(3, va_rf ru17), (0, .ref o), (1, .int x1), (2, .int x2)]) S.1 S.2.1 dX10_foreseenMinutes_36 rfl hl (by decide) rfl (fun ls hl => ?_)
        refine mz_aload_n (x := ru17) S.1 S.2.1 dX10_foreseenMinutes_37 rfl (lv_at hl 0 rfl) ?_
        refine mz_ifnonnull (tgt := 43) S.1 S.2.1 dX10_foreseenMinutes_38 (by decide) (fun a18 e19 => ?_) (fun e19 => ?_)
        · have h := h.2 a18 e19
          refine mz_aload_n (x := ru17) S.1 S.2.1 dX10_foreseenMinutes_43 rfl (lv_at hl 0 rfl) ?_
          refine mz_o0 e19 ?_
          obtain ⟨k20, h⟩ := h
          refine mz_geti S hG hM cf_4 fd_132 tw_177 dX10_foreseenMinutes_44 k20 ?_
          refine lv_bipush (v := (nI 100)) S.1 S.2.1 dX10_foreseenMinutes_47 (by decide) ?_
          refine lv_icmp_ne (tgt := 54) S.1 S.2.1 dX10_foreseenMinutes_49 (by decide) (fun c21 => ?_) (fun c21 => ?_)
          · have h := h.1 c21
            refine lv_iinc (v := (x2 + nI 1)) (lv' := [(2, .int (x2 + nI 1)), (3, va_rf ru17), (0, .ref o), (1, .int x1)]) S.1 S.2.1 dX10_foreseenMinutes_54 hl (k := 3) rfl rfl (by decide) rfl (fun ls hl => ?_)
            refine lv_goto (tgt := 13) S.1 S.2.1 dX10_foreseenMinutes_57 (by decide) ?_
            exact ih x1 (x2 + nI 1) μ12 H locs ls hM hS (lv_sub hl [2, 3, 0] rfl) h
          · have h := h.2 c21
            refine lv_iload_n S.1 S.2.1 dX10_foreseenMinutes_52 rfl (lv_at hl 3 rfl) ?_
            exact mz_iret S hr hlk hM hS rfl (Nat.le_of_ble_eq_true rfl) (Nat.le_of_ble_eq_true rfl) dX10_foreseenMinutes_53 ⟨_, rfl, h⟩
        · have h := h.1 e19
          refine lv_iconst (v := (-1)) S.1 S.2.1 dX10_foreseenMinutes_41 (by decide) ?_
          exact mz_iret S hr hlk hM hS rfl (Nat.le_of_ble_eq_true rfl) (Nat.le_of_ble_eq_true rfl) dX10_foreseenMinutes_42 ⟨_, rfl, h⟩
  intro H locs ls hM hS hl
  have hl : lv_has ls 4 [(0, .ref o), (1, .int x1)] := hl
  unfold w_X10_foreseenMinutes at h
  refine lv_aload_n S.1 S.2.1 dX10_foreseenMinutes_0 rfl (lv_at hl 0 rfl) ?_
  obtain ⟨k1, h⟩ := h
  refine mz_getr S hG hM cf_9 fd_290 tw_349 dX10_foreseenMinutes_1 k1 ?_
  refine lv_aload_n S.1 S.2.1 dX10_foreseenMinutes_4 rfl (lv_at hl 0 rfl) ?_
  refine mz_getr S hG hM cf_9 fd_288 tw_347 dX10_foreseenMinutes_5 k1 ?_
  obtain ⟨a2, e3, h⟩ := h
  refine mz_o1 e3 ?_
  obtain ⟨k4, h⟩ := h
  refine mz_V S hG hM hS cf_7 k4 (As := [va_rf (mR μ 288 o)]) (rest := []) (c_X8_copyFrom h) yf_X8_copyFrom tw_833 tw_834 tw_835 ⟨Nat.le_of_ble_eq_true rfl, Nat.le_of_ble_eq_true rfl⟩ ⟨(Nat.le_of_ble_eq_true rfl), (Nat.le_of_ble_eq_true rfl)⟩ rfl hl.1 rfl (Nat.le_of_ble_eq_true rfl) dX10_foreseenMinutes_8 (fun v9 μ5 H locs hp hM hS => ?_)
  obtain ⟨rfl, h⟩ := hp
  refine W.cs (cells' := 0) (slots' := 0) rfl rfl ?_
  refine lv_iconst (v := (nI 1)) S.1 S.2.1 dX10_foreseenMinutes_11 (by decide) ?_
  refine lv_istore_n (lv' := [(2, .int (nI 1)), (0, .ref o), (1, .int x1)]) S.1 S.2.1 dX10_foreseenMinutes_12 rfl hl (by decide) rfl (fun ls hl => ?_)
  obtain ⟨n9, h⟩ := h
  exact hB13  n9 x1 (nI 1) μ5 H locs ls hM hS (lv_sub hl [1, 2, 0] rfl) h
set_option maxRecDepth 100000 in
set_option maxHeartbeats 4000000 in
theorem c_X10_minutesUntilDelivered {l : Launch} {G : mgT} {μ : mmT} {o : Nat} {x1 : Int32} {Q : Int32 → mmT → Prop} {X : String → mmT → Prop} (hl0 : l.stackTraces = false) (h : w_X10_minutesUntilDelivered G μ o x1 Q X) : MX G l yX10_minutesUntilDelivered cX10_minutesUntilDelivered 3 (some .int) { frames := 7, cells := 2, slots := 12, locals := 195 } [.ref o, .int x1] μ (pI Q) X := by
  refine mz_MX (by decide +kernel) (Nat.le_of_ble_eq_true rfl) (fun p e s m args below meth c S hG hr hlk hnm hex => ?_)
  intro H locs ls hM hS hl
  have hl : lv_has ls 3 [(0, .ref o), (1, .int x1)] := hl
  unfold w_X10_minutesUntilDelivered at h
  refine lv_aload_n S.1 S.2.1 dX10_minutesUntilDelivered_0 rfl (lv_at hl 0 rfl) ?_
  refine lv_iload_n S.1 S.2.1 dX10_minutesUntilDelivered_1 rfl (lv_at hl 1 rfl) ?_
  obtain ⟨k1, h⟩ := h
  refine mz_VX S hG hM hS cf_9 k1 (As := [.int x1]) (rest := []) (c_X10_existingMessage hl0 h) yf_X10_existingMessage tw_1189 tw_1191 ts_13 ⟨Nat.le_of_ble_eq_true rfl, Nat.le_of_ble_eq_true rfl⟩ ⟨(Nat.le_of_ble_eq_true rfl), (Nat.le_of_ble_eq_true rfl)⟩ rfl hl.1 rfl (Nat.le_of_ble_eq_true rfl) dX10_minutesUntilDelivered_2 (fun E ce q9 μ9 H locs hp hM hS hc9 hv9 hcl9 => ?_) (fun v9 μ9 H locs hp hM hS => ?_)
  · obtain ⟨e9, h⟩ := hp
    rw [e9] at hM
    exact mz_out hex hlk hM hS hc9 hv9 hcl9 (Nat.le_of_ble_eq_true rfl) (Nat.le_of_ble_eq_true rfl) h
  · obtain ⟨ru2, rfl, e9, h⟩ := hp
    rw [e9] at hM
    refine W.cs (cells' := 1) (slots' := 6) rfl rfl ?_
    obtain ⟨a3, e4, h⟩ := h
    refine mz_o0 e4 ?_
    obtain ⟨k5, h⟩ := h
    refine mz_geti S hG hM cf_4 fd_132 tw_177 dX10_minutesUntilDelivered_5 k5 ?_
    refine lv_bipush (v := (nI 100)) S.1 S.2.1 dX10_minutesUntilDelivered_8 (by decide) ?_
    refine lv_icmp_ne (tgt := 23) S.1 S.2.1 dX10_minutesUntilDelivered_10 (by decide) (fun c6 => ?_) (fun c6 => ?_)
    · have h := h.1 c6
      refine lv_aload_n S.1 S.2.1 dX10_minutesUntilDelivered_23 rfl (lv_at hl 0 rfl) ?_
      refine lv_iload_n S.1 S.2.1 dX10_minutesUntilDelivered_24 rfl (lv_at hl 1 rfl) ?_
      refine mz_V S hG hM hS cf_9 k1 (As := [.int x1]) (rest := []) (c_X10_foreseenMinutes h) yf_X10_foreseenMinutes tw_1263 tw_1265 ts_14 ⟨Nat.le_of_ble_eq_true rfl, Nat.le_of_ble_eq_true rfl⟩ ⟨(Nat.le_of_ble_eq_true rfl), (Nat.le_of_ble_eq_true rfl)⟩ rfl hl.1 rfl (Nat.le_of_ble_eq_true rfl) dX10_minutesUntilDelivered_25 (fun v9 μ8 H locs hp hM hS => ?_)
      obtain ⟨u7, rfl, h⟩ := hp
      refine W.cs (cells' := 1) (slots' := 6) rfl rfl ?_
      refine lv_istore_n (lv' := [(2, .int u7), (0, .ref o), (1, .int x1)]) S.1 S.2.1 dX10_minutesUntilDelivered_28 rfl hl (by decide) rfl (fun ls hl => ?_)
      refine lv_iload_n S.1 S.2.1 dX10_minutesUntilDelivered_29 rfl (lv_at hl 0 rfl) ?_
      refine lv_iconst (v := (-1)) S.1 S.2.1 dX10_minutesUntilDelivered_30 (by decide) ?_
      refine lv_icmp_ne (tgt := 44) S.1 S.2.1 dX10_minutesUntilDelivered_31 (by decide) (fun c9 => ?_) (fun c9 => ?_)
      · have h := h.1 c9
        refine lv_iload_n S.1 S.2.1 dX10_minutesUntilDelivered_44 rfl (lv_at hl 0 rfl) ?_
        exact vx_ret (mz_iret S hr hlk hM hS rfl (Nat.le_of_ble_eq_true rfl) (Nat.le_of_ble_eq_true rfl) dX10_minutesUntilDelivered_45 ⟨_, rfl, h⟩)
      · have h := h.2 c9
        exact mz_throw S hl0 hG hM hS hex hlk hl.1 xf_98_102 (j := 18) rfl dX10_minutesUntilDelivered_34 dX10_minutesUntilDelivered_37 dX10_minutesUntilDelivered_38 dX10_minutesUntilDelivered_40 dX10_minutesUntilDelivered_43 (Nat.le_of_ble_eq_true rfl) (Nat.le_of_ble_eq_true rfl) (Nat.le_of_ble_eq_true rfl) (Nat.le_of_ble_eq_true rfl) (Nat.le_of_ble_eq_true rfl) (Nat.le_of_ble_eq_true rfl) h
    · have h := h.2 c6
      exact mz_throw S hl0 hG hM hS hex hlk hl.1 xf_98_102 (j := 17) rfl dX10_minutesUntilDelivered_13 dX10_minutesUntilDelivered_16 dX10_minutesUntilDelivered_17 dX10_minutesUntilDelivered_19 dX10_minutesUntilDelivered_22 (Nat.le_of_ble_eq_true rfl) (Nat.le_of_ble_eq_true rfl) (Nat.le_of_ble_eq_true rfl) (Nat.le_of_ble_eq_true rfl) (Nat.le_of_ble_eq_true rfl) (Nat.le_of_ble_eq_true rfl) h
set_option maxRecDepth 100000 in
set_option maxHeartbeats 4000000 in
theorem c_X10_time {l : Launch} {G : mgT} {μ : mmT} {o : Nat} {Q : Int32 → Prop} (h : w_X10_time G μ o Q) : MC G l yX10_time cX10_time 1 (some .int) { frames := 0, cells := 0, slots := 0, locals := 0 } [.ref o] μ (pI (fun r μ' => μ' = μ ∧ Q r)) := by
  refine mz_MC (by decide +kernel) (Nat.le_of_ble_eq_true rfl) (fun p e s m args below meth c S hG hr hlk hnm => ?_)
  intro H locs ls hM hS hl
  have hl : lv_has ls 1 [(0, .ref o)] := hl
  unfold w_X10_time at h
  refine lv_aload_n S.1 S.2.1 dX10_time_0 rfl (lv_at hl 0 rfl) ?_
  obtain ⟨k1, h⟩ := h
  refine mz_getr S hG hM cf_9 fd_288 tw_347 dX10_time_1 k1 ?_
  obtain ⟨a2, e3, h⟩ := h
  refine mz_o0 e3 ?_
  obtain ⟨k4, h⟩ := h
  refine mz_geti S hG hM cf_7 fd_231 tw_208 dX10_time_4 k4 ?_
  exact mz_iret S hr hlk hM hS rfl (Nat.le_of_ble_eq_true rfl) (Nat.le_of_ble_eq_true rfl) dX10_time_7 ⟨_, rfl, rfl, h⟩
set_option maxRecDepth 100000 in
set_option maxHeartbeats 4000000 in
theorem c_X10_wind {l : Launch} {G : mgT} {μ : mmT} {o : Nat} {Q : Int32 → Prop} (h : w_X10_wind G μ o Q) : MC G l yX10_wind cX10_wind 1 (some .int) { frames := 0, cells := 0, slots := 0, locals := 0 } [.ref o] μ (pI (fun r μ' => μ' = μ ∧ Q r)) := by
  refine mz_MC (by decide +kernel) (Nat.le_of_ble_eq_true rfl) (fun p e s m args below meth c S hG hr hlk hnm => ?_)
  intro H locs ls hM hS hl
  have hl : lv_has ls 1 [(0, .ref o)] := hl
  unfold w_X10_wind at h
  refine lv_aload_n S.1 S.2.1 dX10_wind_0 rfl (lv_at hl 0 rfl) ?_
  obtain ⟨k1, h⟩ := h
  refine mz_getr S hG hM cf_9 fd_288 tw_347 dX10_wind_1 k1 ?_
  obtain ⟨a2, e3, h⟩ := h
  refine mz_o0 e3 ?_
  obtain ⟨k4, h⟩ := h
  refine mz_geti S hG hM cf_7 fd_232 tw_210 dX10_wind_4 k4 ?_
  exact mz_iret S hr hlk hM hS rfl (Nat.le_of_ble_eq_true rfl) (Nat.le_of_ble_eq_true rfl) dX10_wind_7 ⟨_, rfl, rfl, h⟩
set_option maxRecDepth 100000 in
set_option maxHeartbeats 4000000 in
theorem c_X10_publishedTotal {l : Launch} {G : mgT} {μ : mmT} {o : Nat} {Q : Int32 → Prop} (h : w_X10_publishedTotal G μ o Q) : MC G l yX10_publishedTotal cX10_publishedTotal 1 (some .int) { frames := 0, cells := 0, slots := 0, locals := 0 } [.ref o] μ (pI (fun r μ' => μ' = μ ∧ Q r)) := by
  refine mz_MC (by decide +kernel) (Nat.le_of_ble_eq_true rfl) (fun p e s m args below meth c S hG hr hlk hnm => ?_)
  intro H locs ls hM hS hl
  have hl : lv_has ls 1 [(0, .ref o)] := hl
  unfold w_X10_publishedTotal at h
  refine lv_aload_n S.1 S.2.1 dX10_publishedTotal_0 rfl (lv_at hl 0 rfl) ?_
  obtain ⟨k1, h⟩ := h
  refine mz_getr S hG hM cf_9 fd_288 tw_347 dX10_publishedTotal_1 k1 ?_
  obtain ⟨a2, e3, h⟩ := h
  refine mz_o0 e3 ?_
  obtain ⟨k4, h⟩ := h
  refine mz_getr S hG hM cf_7 fd_227 tw_200 dX10_publishedTotal_4 k4 ?_
  obtain ⟨a5, e6, h⟩ := h
  refine mz_o0 e6 ?_
  obtain ⟨k7, h⟩ := h
  refine mz_geti S hG hM cf_8 fd_256 tw_66 dX10_publishedTotal_7 k7 ?_
  exact mz_iret S hr hlk hM hS rfl (Nat.le_of_ble_eq_true rfl) (Nat.le_of_ble_eq_true rfl) dX10_publishedTotal_10 ⟨_, rfl, rfl, h⟩
set_option maxRecDepth 100000 in
set_option maxHeartbeats 4000000 in
theorem c_X10_deliveredTotal {l : Launch} {G : mgT} {μ : mmT} {o : Nat} {Q : Int32 → Prop} (h : w_X10_deliveredTotal G μ o Q) : MC G l yX10_deliveredTotal cX10_deliveredTotal 1 (some .int) { frames := 0, cells := 0, slots := 0, locals := 0 } [.ref o] μ (pI (fun r μ' => μ' = μ ∧ Q r)) := by
  refine mz_MC (by decide +kernel) (Nat.le_of_ble_eq_true rfl) (fun p e s m args below meth c S hG hr hlk hnm => ?_)
  intro H locs ls hM hS hl
  have hl : lv_has ls 1 [(0, .ref o)] := hl
  unfold w_X10_deliveredTotal at h
  refine lv_aload_n S.1 S.2.1 dX10_deliveredTotal_0 rfl (lv_at hl 0 rfl) ?_
  obtain ⟨k1, h⟩ := h
  refine mz_getr S hG hM cf_9 fd_288 tw_347 dX10_deliveredTotal_1 k1 ?_
  obtain ⟨a2, e3, h⟩ := h
  refine mz_o0 e3 ?_
  obtain ⟨k4, h⟩ := h
  refine mz_getr S hG hM cf_7 fd_227 tw_200 dX10_deliveredTotal_4 k4 ?_
  obtain ⟨a5, e6, h⟩ := h
  refine mz_o0 e6 ?_
  obtain ⟨k7, h⟩ := h
  refine mz_geti S hG hM cf_8 fd_257 tw_69 dX10_deliveredTotal_7 k7 ?_
  exact mz_iret S hr hlk hM hS rfl (Nat.le_of_ble_eq_true rfl) (Nat.le_of_ble_eq_true rfl) dX10_deliveredTotal_10 ⟨_, rfl, rfl, h⟩
set_option maxRecDepth 100000 in
set_option maxHeartbeats 4000000 in
theorem c_X10_readTotal {l : Launch} {G : mgT} {μ : mmT} {o : Nat} {Q : Int32 → Prop} (h : w_X10_readTotal G μ o Q) : MC G l yX10_readTotal cX10_readTotal 1 (some .int) { frames := 0, cells := 0, slots := 0, locals := 0 } [.ref o] μ (pI (fun r μ' => μ' = μ ∧ Q r)) := by
  refine mz_MC (by decide +kernel) (Nat.le_of_ble_eq_true rfl) (fun p e s m args below meth c S hG hr hlk hnm => ?_)
  intro H locs ls hM hS hl
  have hl : lv_has ls 1 [(0, .ref o)] := hl
  unfold w_X10_readTotal at h
  refine lv_aload_n S.1 S.2.1 dX10_readTotal_0 rfl (lv_at hl 0 rfl) ?_
  obtain ⟨k1, h⟩ := h
  refine mz_getr S hG hM cf_9 fd_288 tw_347 dX10_readTotal_1 k1 ?_
  obtain ⟨a2, e3, h⟩ := h
  refine mz_o0 e3 ?_
  obtain ⟨k4, h⟩ := h
  refine mz_getr S hG hM cf_7 fd_227 tw_200 dX10_readTotal_4 k4 ?_
  obtain ⟨a5, e6, h⟩ := h
  refine mz_o0 e6 ?_
  obtain ⟨k7, h⟩ := h
  refine mz_geti S hG hM cf_8 fd_258 tw_72 dX10_readTotal_7 k7 ?_
  exact mz_iret S hr hlk hM hS rfl (Nat.le_of_ble_eq_true rfl) (Nat.le_of_ble_eq_true rfl) dX10_readTotal_10 ⟨_, rfl, rfl, h⟩
set_option maxRecDepth 100000 in
set_option maxHeartbeats 4000000 in
theorem c_X10_duplicateTotal {l : Launch} {G : mgT} {μ : mmT} {o : Nat} {Q : Int32 → Prop} (h : w_X10_duplicateTotal G μ o Q) : MC G l yX10_duplicateTotal cX10_duplicateTotal 1 (some .int) { frames := 0, cells := 0, slots := 0, locals := 0 } [.ref o] μ (pI (fun r μ' => μ' = μ ∧ Q r)) := by
  refine mz_MC (by decide +kernel) (Nat.le_of_ble_eq_true rfl) (fun p e s m args below meth c S hG hr hlk hnm => ?_)
  intro H locs ls hM hS hl
  have hl : lv_has ls 1 [(0, .ref o)] := hl
  unfold w_X10_duplicateTotal at h
  refine lv_aload_n S.1 S.2.1 dX10_duplicateTotal_0 rfl (lv_at hl 0 rfl) ?_
  obtain ⟨k1, h⟩ := h
  refine mz_getr S hG hM cf_9 fd_288 tw_347 dX10_duplicateTotal_1 k1 ?_
  obtain ⟨a2, e3, h⟩ := h
  refine mz_o0 e3 ?_
  obtain ⟨k4, h⟩ := h
  refine mz_getr S hG hM cf_7 fd_227 tw_200 dX10_duplicateTotal_4 k4 ?_
  obtain ⟨a5, e6, h⟩ := h
  refine mz_o0 e6 ?_
  obtain ⟨k7, h⟩ := h
  refine mz_geti S hG hM cf_8 fd_259 tw_75 dX10_duplicateTotal_7 k7 ?_
  exact mz_iret S hr hlk hM hS rfl (Nat.le_of_ble_eq_true rfl) (Nat.le_of_ble_eq_true rfl) dX10_duplicateTotal_10 ⟨_, rfl, rfl, h⟩
set_option maxRecDepth 100000 in
set_option maxHeartbeats 4000000 in
theorem c_X10_failedTotal {l : Launch} {G : mgT} {μ : mmT} {o : Nat} {Q : Int32 → Prop} (h : w_X10_failedTotal G μ o Q) : MC G l yX10_failedTotal cX10_failedTotal 1 (some .int) { frames := 0, cells := 0, slots := 0, locals := 0 } [.ref o] μ (pI (fun r μ' => μ' = μ ∧ Q r)) := by
  refine mz_MC (by decide +kernel) (Nat.le_of_ble_eq_true rfl) (fun p e s m args below meth c S hG hr hlk hnm => ?_)
  intro H locs ls hM hS hl
  have hl : lv_has ls 1 [(0, .ref o)] := hl
  unfold w_X10_failedTotal at h
  refine lv_aload_n S.1 S.2.1 dX10_failedTotal_0 rfl (lv_at hl 0 rfl) ?_
  obtain ⟨k1, h⟩ := h
  refine mz_getr S hG hM cf_9 fd_288 tw_347 dX10_failedTotal_1 k1 ?_
  obtain ⟨a2, e3, h⟩ := h
  refine mz_o0 e3 ?_
  obtain ⟨k4, h⟩ := h
  refine mz_getr S hG hM cf_7 fd_227 tw_200 dX10_failedTotal_4 k4 ?_
  obtain ⟨a5, e6, h⟩ := h
  refine mz_o0 e6 ?_
  obtain ⟨k7, h⟩ := h
  refine mz_geti S hG hM cf_8 fd_260 tw_78 dX10_failedTotal_7 k7 ?_
  exact mz_iret S hr hlk hM hS rfl (Nat.le_of_ble_eq_true rfl) (Nat.le_of_ble_eq_true rfl) dX10_failedTotal_10 ⟨_, rfl, rfl, h⟩
set_option maxRecDepth 100000 in
set_option maxHeartbeats 4000000 in
theorem c_X10_arrivalTotal {l : Launch} {G : mgT} {μ : mmT} {o : Nat} {Q : Int32 → Prop} (h : w_X10_arrivalTotal G μ o Q) : MC G l yX10_arrivalTotal cX10_arrivalTotal 1 (some .int) { frames := 0, cells := 0, slots := 0, locals := 0 } [.ref o] μ (pI (fun r μ' => μ' = μ ∧ Q r)) := by
  refine mz_MC (by decide +kernel) (Nat.le_of_ble_eq_true rfl) (fun p e s m args below meth c S hG hr hlk hnm => ?_)
  intro H locs ls hM hS hl
  have hl : lv_has ls 1 [(0, .ref o)] := hl
  unfold w_X10_arrivalTotal at h
  refine lv_aload_n S.1 S.2.1 dX10_arrivalTotal_0 rfl (lv_at hl 0 rfl) ?_
  obtain ⟨k1, h⟩ := h
  refine mz_getr S hG hM cf_9 fd_288 tw_347 dX10_arrivalTotal_1 k1 ?_
  obtain ⟨a2, e3, h⟩ := h
  refine mz_o0 e3 ?_
  obtain ⟨k4, h⟩ := h
  refine mz_getr S hG hM cf_7 fd_227 tw_200 dX10_arrivalTotal_4 k4 ?_
  obtain ⟨a5, e6, h⟩ := h
  refine mz_o0 e6 ?_
  obtain ⟨k7, h⟩ := h
  refine mz_geti S hG hM cf_8 fd_262 tw_83 dX10_arrivalTotal_7 k7 ?_
  exact mz_iret S hr hlk hM hS rfl (Nat.le_of_ble_eq_true rfl) (Nat.le_of_ble_eq_true rfl) dX10_arrivalTotal_10 ⟨_, rfl, rfl, h⟩
set_option maxRecDepth 100000 in
set_option maxHeartbeats 4000000 in
theorem c_X10_messageCountByTotals {l : Launch} {G : mgT} {μ : mmT} {o : Nat} {Q : Int32 → Prop} (h : w_X10_messageCountByTotals G μ o Q) : MC G l yX10_messageCountByTotals cX10_messageCountByTotals 1 (some .int) { frames := 1, cells := 0, slots := 0, locals := 20 } [.ref o] μ (pI (fun r μ' => μ' = μ ∧ Q r)) := by
  refine mz_MC (by decide +kernel) (Nat.le_of_ble_eq_true rfl) (fun p e s m args below meth c S hG hr hlk hnm => ?_)
  intro H locs ls hM hS hl
  have hl : lv_has ls 1 [(0, .ref o)] := hl
  unfold w_X10_messageCountByTotals at h
  refine lv_aload_n S.1 S.2.1 dX10_messageCountByTotals_0 rfl (lv_at hl 0 rfl) ?_
  obtain ⟨k1, h⟩ := h
  refine mz_getr S hG hM cf_9 fd_288 tw_347 dX10_messageCountByTotals_1 k1 ?_
  obtain ⟨a2, e3, h⟩ := h
  refine mz_o0 e3 ?_
  obtain ⟨k4, h⟩ := h
  refine mz_getr S hG hM cf_7 fd_227 tw_200 dX10_messageCountByTotals_4 k4 ?_
  obtain ⟨a5, e6, h⟩ := h
  refine mz_o0 e6 ?_
  obtain ⟨k7, h⟩ := h
  refine mz_V S hG hM hS cf_8 k7 (As := []) (rest := []) (c_X9_existing h) yf_X9_existing tw_426 tw_427 tw_428 ⟨Nat.le_of_ble_eq_true rfl, Nat.le_of_ble_eq_true rfl⟩ ⟨(Nat.le_of_ble_eq_true rfl), (Nat.le_of_ble_eq_true rfl)⟩ rfl hl.1 rfl (Nat.le_of_ble_eq_true rfl) dX10_messageCountByTotals_7 (fun v9 μ9 H locs hp hM hS => ?_)
  obtain ⟨u8, rfl, e9, h⟩ := hp
  rw [e9] at hM
  refine W.cs (cells' := 0) (slots' := 0) rfl rfl ?_
  exact mz_iret S hr hlk hM hS rfl (Nat.le_of_ble_eq_true rfl) (Nat.le_of_ble_eq_true rfl) dX10_messageCountByTotals_10 ⟨_, rfl, rfl, h⟩
set_option maxRecDepth 100000 in
set_option maxHeartbeats 4000000 in
theorem c_X10_meanOfAttempts {l : Launch} {G : mgT} {μ : mmT} {o : Nat} {Q : UInt64 → Prop} (h : w_X10_meanOfAttempts G μ o Q) : MC G l yX10_meanOfAttempts cX10_meanOfAttempts 1 (some .double) { frames := 1, cells := 0, slots := 0, locals := 22 } [.ref o] μ (pD (fun r μ' => μ' = μ ∧ Q r)) := by
  refine mz_MC (by decide +kernel) (Nat.le_of_ble_eq_true rfl) (fun p e s m args below meth c S hG hr hlk hnm => ?_)
  intro H locs ls hM hS hl
  have hl : lv_has ls 1 [(0, .ref o)] := hl
  unfold w_X10_meanOfAttempts at h
  refine lv_aload_n S.1 S.2.1 dX10_meanOfAttempts_0 rfl (lv_at hl 0 rfl) ?_
  obtain ⟨k1, h⟩ := h
  refine mz_getr S hG hM cf_9 fd_288 tw_347 dX10_meanOfAttempts_1 k1 ?_
  obtain ⟨a2, e3, h⟩ := h
  refine mz_o0 e3 ?_
  obtain ⟨k4, h⟩ := h
  refine mz_V S hG hM hS cf_7 k4 (As := []) (rest := []) (c_X8_sumOfAttempts h) yf_X8_sumOfAttempts tw_1296 tw_1297 tw_1298 ⟨Nat.le_of_ble_eq_true rfl, Nat.le_of_ble_eq_true rfl⟩ ⟨(Nat.le_of_ble_eq_true rfl), (Nat.le_of_ble_eq_true rfl)⟩ rfl hl.1 rfl (Nat.le_of_ble_eq_true rfl) dX10_meanOfAttempts_4 (fun v9 μ9 H locs hp hM hS => ?_)
  obtain ⟨u5, rfl, e9, h⟩ := hp
  rw [e9] at hM
  refine W.cs (cells' := 0) (slots' := 0) rfl rfl ?_
  refine lv_i2d S.1 S.2.1 dX10_meanOfAttempts_7 ?_
  refine lv_aload_n S.1 S.2.1 dX10_meanOfAttempts_8 rfl (lv_at hl 0 rfl) ?_
  refine mz_getr S hG hM cf_9 fd_288 tw_347 dX10_meanOfAttempts_9 k1 ?_
  refine mz_o0 e3 ?_
  refine mz_geti S hG hM cf_7 fd_230 tw_206 dX10_meanOfAttempts_12 k4 ?_
  refine lv_i2d S.1 S.2.1 dX10_meanOfAttempts_15 ?_
  obtain ⟨g6, h⟩ := h
  refine lv_ddiv S.1 S.2.1 dX10_meanOfAttempts_16 g6 ?_
  exact mz_dret S hr hlk hM hS (Nat.le_of_ble_eq_true rfl) (Nat.le_of_ble_eq_true rfl) dX10_meanOfAttempts_17 ⟨_, rfl, rfl, h⟩
set_option maxRecDepth 100000 in
set_option maxHeartbeats 4000000 in
theorem c_X10_meanAttempts {l : Launch} {G : mgT} {μ : mmT} {o : Nat} {Q : UInt64 → Prop} {X : String → Prop} (hl0 : l.stackTraces = false) (h : w_X10_meanAttempts G μ o Q X) : MX G l yX10_meanAttempts cX10_meanAttempts 1 (some .double) { frames := 6, cells := 1, slots := 6, locals := 100 } [.ref o] μ (pD (fun r μ' => μ' = μ ∧ Q r)) (fun E μ' => μ' = μ ∧ X E) := by
  refine mz_MX (by decide +kernel) (Nat.le_of_ble_eq_true rfl) (fun p e s m args below meth c S hG hr hlk hnm hex => ?_)
  intro H locs ls hM hS hl
  have hl : lv_has ls 1 [(0, .ref o)] := hl
  unfold w_X10_meanAttempts at h
  refine lv_aload_n S.1 S.2.1 dX10_meanAttempts_0 rfl (lv_at hl 0 rfl) ?_
  obtain ⟨k1, h⟩ := h
  refine mz_getr S hG hM cf_9 fd_288 tw_347 dX10_meanAttempts_1 k1 ?_
  obtain ⟨a2, e3, h⟩ := h
  refine mz_o0 e3 ?_
  obtain ⟨k4, h⟩ := h
  refine mz_geti S hG hM cf_7 fd_230 tw_206 dX10_meanAttempts_4 k4 ?_
  refine lv_if_ne (tgt := 21) S.1 S.2.1 dX10_meanAttempts_7 (by decide) (fun c5 => ?_) (fun c5 => ?_)
  · have h := h.1 c5
    refine lv_aload_n S.1 S.2.1 dX10_meanAttempts_21 rfl (lv_at hl 0 rfl) ?_
    refine mz_V S hG hM hS cf_9 k1 (As := []) (rest := []) (c_X10_meanOfAttempts h) yf_X10_meanOfAttempts tw_1292 tw_1294 ts_15 ⟨Nat.le_of_ble_eq_true rfl, Nat.le_of_ble_eq_true rfl⟩ ⟨(Nat.le_of_ble_eq_true rfl), (Nat.le_of_ble_eq_true rfl)⟩ rfl hl.1 rfl (Nat.le_of_ble_eq_true rfl) dX10_meanAttempts_22 (fun v9 μ9 H locs hp hM hS => ?_)
    obtain ⟨u6, rfl, e9, h⟩ := hp
    rw [e9] at hM
    refine W.cs (cells' := 0) (slots' := 0) rfl rfl ?_
    exact vx_ret (mz_dret S hr hlk hM hS (Nat.le_of_ble_eq_true rfl) (Nat.le_of_ble_eq_true rfl) dX10_meanAttempts_25 ⟨_, rfl, rfl, h⟩)
  · have h := h.2 c5
    exact mz_throwW S hl0 hG hM hS hex hlk hl.1 xf_275_279 (j := 19) rfl dX10_meanAttempts_10 dX10_meanAttempts_13 dX10_meanAttempts_14 dX10_meanAttempts_17 dX10_meanAttempts_20 (Nat.le_of_ble_eq_true rfl) (Nat.le_of_ble_eq_true rfl) (Nat.le_of_ble_eq_true rfl) (Nat.le_of_ble_eq_true rfl) (Nat.le_of_ble_eq_true rfl) (Nat.le_of_ble_eq_true rfl) ⟨rfl, h⟩
set_option maxRecDepth 100000 in
set_option maxHeartbeats 4000000 in
theorem c_X10_bitsOf {l : Launch} {G : mgT} {μ : mmT} {x0 : UInt64} {x2 : Int32} {x3 : Int32} {Q : Int64 → Prop} (h : w_X10_bitsOf G μ x0 x2 x3 Q) : MC G l yX10_bitsOf cX10_bitsOf 9 (some .long) { frames := 0, cells := 0, slots := 0, locals := 0 } [.double x0, .int x2, .int x3] μ (pL (fun r μ' => μ' = μ ∧ Q r)) := by
  refine mz_MC (by decide +kernel) (Nat.le_of_ble_eq_true rfl) (fun p e s m args below meth c S hG hr hlk hnm => ?_)
  have hB86 : ∀ (x2 : Int32) (x3 : Int32) (x4 : UInt64) (x6 : Int32) (H : Heap) (locs : List Loc) (ls : Array Slot), Mm G μ H → va_S (Ah G) s.heap H locs → lv_has ls 9 [(2, .int x2), (3, .int x3), (4, .double x4), (6, .int x6)] → w_X10_bitsOf_b86 G μ Q  x2 x3 x4 x6 → W p l e { frames := 0, cells := 0, slots := 0, locals := 0 } s m args below meth c H locs 0 0 (MQ below (mQ G (pL (fun r μ' => μ' = μ ∧ Q r))) args s 0 0 (Ah G)) (F0 m 86 ls []) := by
    intro  x2 x3 x4 x6 H locs ls hM hS hl h
    unfold w_X10_bitsOf_b86 at h
    refine lv_dload S.1 S.2.1 dX10_bitsOf_86 (lv_at hl 2 rfl) ?_
    refine lv_dconst1 S.1 S.2.1 dX10_bitsOf_88 ?_
    obtain ⟨g4, h⟩ := h
    refine lv_dsub S.1 S.2.1 dX10_bitsOf_89 g4 ?_
    refine lv_lconst (v := lN 1) S.1 S.2.1 dX10_bitsOf_90 rfl ?_
    refine lv_iload_n S.1 S.2.1 dX10_bitsOf_91 rfl (lv_at hl 0 rfl) ?_
    refine lv_lshl S.1 S.2.1 dX10_bitsOf_92 rfl ?_
    refine lv_l2d S.1 S.2.1 dX10_bitsOf_93 ?_
    obtain ⟨g5, h⟩ := h
    refine lv_dmul S.1 S.2.1 dX10_bitsOf_94 g5 ?_
    refine lv_d2l S.1 S.2.1 dX10_bitsOf_95 ?_
    refine lv_lstore (lv' := [(7, .long (FP.d2l (FP.dmul (FP.dsub x4 FP.dconst1) (FP.l2d ((lN 1) <<< (x2.toInt64 &&& 63)))))), (2, .int x2), (3, .int x3), (4, .double x4), (6, .int x6)]) S.1 S.2.1 dX10_bitsOf_96 hl (by decide) rfl (fun ls hl => ?_)
    refine lv_iload S.1 S.2.1 dX10_bitsOf_98 (lv_at hl 4 rfl) ?_
    refine lv_iload_n S.1 S.2.1 dX10_bitsOf_100 rfl (lv_at hl 2 rfl) ?_
    refine lv_iadd S.1 S.2.1 dX10_bitsOf_101 ?_
    refine lv_i2l S.1 S.2.1 dX10_bitsOf_102 rfl ?_
    refine lv_iload_n S.1 S.2.1 dX10_bitsOf_103 rfl (lv_at hl 1 rfl) ?_
    refine lv_lshl S.1 S.2.1 dX10_bitsOf_104 rfl ?_
    refine lv_lload S.1 S.2.1 dX10_bitsOf_105 (lv_at hl 0 rfl) ?_
    refine lv_ladd S.1 S.2.1 dX10_bitsOf_107 ?_
    exact mz_lret S hr hlk hM hS (Nat.le_of_ble_eq_true rfl) (Nat.le_of_ble_eq_true rfl) dX10_bitsOf_108 ⟨_, rfl, rfl, h⟩
  have hB54 : ∀ (n : Nat) (x2 : Int32) (x3 : Int32) (x4 : UInt64) (x6 : Int32) (x7 : Int32) (H : Heap) (locs : List Loc) (ls : Array Slot), Mm G μ H → va_S (Ah G) s.heap H locs → lv_has ls 9 [(2, .int x2), (3, .int x3), (4, .double x4), (6, .int x6), (7, .int x7)] → w_X10_litsOf_l54 G μ Q  n x2 x3 x4 x6 x7 → W p l e { frames := 0, cells := 0, slots := 0, locals := 0 } s m args below meth c H locs 0 0 (MQ below (mQ G (pL (fun r μ' => μ' = μ ∧ Q r))) args s 0 0 (Ah G)) (F0 m 54 ls []) := by
    intro  n
    induction n with
    | zero =>
      intro x2 x3 x4 x6 x7 H locs ls hM hS hl h
      exact False.elim h
    | succ n ih =>
      intro x2 x3 x4 x6 x7 H locs ls hM hS hl h
      have h : w_X10_bitsOf_b54 G μ Q  (w_X10_litsOf_l54 G μ Q  n) x2 x3 x4 x6 x7 := h
      unfold w_X10_bitsOf_b54 at h
      refine lv_iload S.1 S.2.1 dX10_bitsOf_54 (lv_at hl 4 rfl) ?_
      refine lv_sipush (v := (nI 1100)) S.1 S.2.1 dX10_bitsOf_56 (by decide) ?_
      refine lv_icmp_ge (tgt := 86) S.1 S.2.1 dX10_bitsOf_59 (by decide) (fun c3 => ?_) (fun c3 => ?_)
      · have h := h.1 c3
        exact hB86  x2 x3 x4 x6 H locs ls hM hS (lv_sub hl [0, 1, 2, 3] rfl) h
      · have h := h.2 c3
        refine lv_dload S.1 S.2.1 dX10_bitsOf_62 (lv_at hl 2 rfl) ?_
        refine lv_dconst1 S.1 S.2.1 dX10_bitsOf_64 ?_
        refine lv_dcmp S.1 S.2.1 dX10_bitsOf_65 ?_
        refine lv_if_ge (tgt := 86) S.1 S.2.1 dX10_bitsOf_66 (by decide) (fun c6 => ?_) (fun c6 => ?_)
        · have h := h.1 c6
          exact hB86  x2 x3 x4 x6 H locs ls hM hS (lv_sub hl [0, 1, 2, 3] rfl) h
        · have h := h.2 c6
          refine lv_dload S.1 S.2.1 dX10_bitsOf_69 (lv_at hl 2 rfl) ?_
          refine lv_ldc2d (v := 4611686018427387904) S.1 S.2.1 S.2.2.2.1 (S.2.2.2.2 _ tw_1310) dX10_bitsOf_71 ?_
          obtain ⟨g7, h⟩ := h
          refine lv_dmul S.1 S.2.1 dX10_bitsOf_74 g7 ?_
          refine lv_dstore (lv' := [(4, .double (FP.dmul x4 (4611686018427387904 : UInt64))), (2, .int x2), (3, .int x3), (6, .int x6), (7, .int x7)]) S.1 S.2.1 dX10_bitsOf_75 hl (by decide) rfl (fun ls hl => ?_)
          refine lv_iinc (v := (x6 + (-1))) (lv' := [(6, .int (x6 + (-1))), (4, .double (FP.dmul x4 (4611686018427387904 : UInt64))), (2, .int x2), (3, .int x3), (7, .int x7)]) S.1 S.2.1 dX10_bitsOf_77 hl (k := 3) rfl rfl (by decide) rfl (fun ls hl => ?_)
          refine lv_iinc (v := (x7 + nI 1)) (lv' := [(7, .int (x7 + nI 1)), (6, .int (x6 + (-1))), (4, .double (FP.dmul x4 (4611686018427387904 : UInt64))), (2, .int x2), (3, .int x3)]) S.1 S.2.1 dX10_bitsOf_80 hl (k := 4) rfl rfl (by decide) rfl (fun ls hl => ?_)
          refine lv_goto (tgt := 54) S.1 S.2.1 dX10_bitsOf_83 (by decide) ?_
          exact ih x2 x3 (FP.dmul x4 (4611686018427387904 : UInt64)) (x6 + (-1)) (x7 + nI 1) H locs ls hM hS (lv_sub hl [3, 4, 2, 1, 0] rfl) h
  have hB51 : ∀ (x2 : Int32) (x3 : Int32) (x4 : UInt64) (x6 : Int32) (H : Heap) (locs : List Loc) (ls : Array Slot), Mm G μ H → va_S (Ah G) s.heap H locs → lv_has ls 9 [(2, .int x2), (3, .int x3), (4, .double x4), (6, .int x6)] → w_X10_bitsOf_b51 G μ Q  x2 x3 x4 x6 → W p l e { frames := 0, cells := 0, slots := 0, locals := 0 } s m args below meth c H locs 0 0 (MQ below (mQ G (pL (fun r μ' => μ' = μ ∧ Q r))) args s 0 0 (Ah G)) (F0 m 51 ls []) := by
    intro  x2 x3 x4 x6 H locs ls hM hS hl h
    unfold w_X10_bitsOf_b51 at h
    refine lv_iconst (v := (nI 0)) S.1 S.2.1 dX10_bitsOf_51 (by decide) ?_
    refine lv_istore (lv' := [(7, .int (nI 0)), (2, .int x2), (3, .int x3), (4, .double x4), (6, .int x6)]) S.1 S.2.1 dX10_bitsOf_52 hl (by decide) rfl (fun ls hl => ?_)
    obtain ⟨n9, h⟩ := h
    exact hB54  n9 x2 x3 x4 x6 (nI 0) H locs ls hM hS (lv_sub hl [1, 2, 3, 4, 0] rfl) h
  have hB17 : ∀ (n : Nat) (x2 : Int32) (x3 : Int32) (x4 : UInt64) (x6 : Int32) (x7 : Int32) (H : Heap) (locs : List Loc) (ls : Array Slot), Mm G μ H → va_S (Ah G) s.heap H locs → lv_has ls 9 [(2, .int x2), (3, .int x3), (4, .double x4), (6, .int x6), (7, .int x7)] → w_X10_litsOf_l17 G μ Q  n x2 x3 x4 x6 x7 → W p l e { frames := 0, cells := 0, slots := 0, locals := 0 } s m args below meth c H locs 0 0 (MQ below (mQ G (pL (fun r μ' => μ' = μ ∧ Q r))) args s 0 0 (Ah G)) (F0 m 17 ls []) := by
    intro  n
    induction n with
    | zero =>
      intro x2 x3 x4 x6 x7 H locs ls hM hS hl h
      exact False.elim h
    | succ n ih =>
      intro x2 x3 x4 x6 x7 H locs ls hM hS hl h
      have h : w_X10_bitsOf_b17 G μ Q  (w_X10_litsOf_l17 G μ Q  n) x2 x3 x4 x6 x7 := h
      unfold w_X10_bitsOf_b17 at h
      refine lv_iload S.1 S.2.1 dX10_bitsOf_17 (lv_at hl 4 rfl) ?_
      refine lv_sipush (v := (nI 1100)) S.1 S.2.1 dX10_bitsOf_19 (by decide) ?_
      refine lv_icmp_ge (tgt := 51) S.1 S.2.1 dX10_bitsOf_22 (by decide) (fun c2 => ?_) (fun c2 => ?_)
      · have h := h.1 c2
        exact hB51  x2 x3 x4 x6 H locs ls hM hS (lv_sub hl [0, 1, 2, 3] rfl) h
      · have h := h.2 c2
        refine lv_dload S.1 S.2.1 dX10_bitsOf_25 (lv_at hl 2 rfl) ?_
        refine lv_ldc2d (v := 4611686018427387904) S.1 S.2.1 S.2.2.2.1 (S.2.2.2.2 _ tw_1310) dX10_bitsOf_27 ?_
        refine lv_dcmp S.1 S.2.1 dX10_bitsOf_30 ?_
        refine lv_if_lt (tgt := 51) S.1 S.2.1 dX10_bitsOf_31 (by decide) (fun c8 => ?_) (fun c8 => ?_)
        · have h := h.1 c8
          exact hB51  x2 x3 x4 x6 H locs ls hM hS (lv_sub hl [0, 1, 2, 3] rfl) h
        · have h := h.2 c8
          refine lv_dload S.1 S.2.1 dX10_bitsOf_34 (lv_at hl 2 rfl) ?_
          refine lv_ldc2d (v := 4611686018427387904) S.1 S.2.1 S.2.2.2.1 (S.2.2.2.2 _ tw_1310) dX10_bitsOf_36 ?_
          obtain ⟨g9, h⟩ := h
          refine lv_ddiv S.1 S.2.1 dX10_bitsOf_39 g9 ?_
          refine lv_dstore (lv' := [(4, .double (FP.ddiv x4 (4611686018427387904 : UInt64))), (2, .int x2), (3, .int x3), (6, .int x6), (7, .int x7)]) S.1 S.2.1 dX10_bitsOf_40 hl (by decide) rfl (fun ls hl => ?_)
          refine lv_iinc (v := (x6 + nI 1)) (lv' := [(6, .int (x6 + nI 1)), (4, .double (FP.ddiv x4 (4611686018427387904 : UInt64))), (2, .int x2), (3, .int x3), (7, .int x7)]) S.1 S.2.1 dX10_bitsOf_42 hl (k := 3) rfl rfl (by decide) rfl (fun ls hl => ?_)
          refine lv_iinc (v := (x7 + nI 1)) (lv' := [(7, .int (x7 + nI 1)), (6, .int (x6 + nI 1)), (4, .double (FP.ddiv x4 (4611686018427387904 : UInt64))), (2, .int x2), (3, .int x3)]) S.1 S.2.1 dX10_bitsOf_45 hl (k := 4) rfl rfl (by decide) rfl (fun ls hl => ?_)
          refine lv_goto (tgt := 17) S.1 S.2.1 dX10_bitsOf_48 (by decide) ?_
          exact ih x2 x3 (FP.ddiv x4 (4611686018427387904 : UInt64)) (x6 + nI 1) (x7 + nI 1) H locs ls hM hS (lv_sub hl [3, 4, 2, 1, 0] rfl) h
  intro H locs ls hM hS hl
  have hl : lv_has ls 9 [(0, .double x0), (2, .int x2), (3, .int x3)] := hl
  unfold w_X10_bitsOf at h
  refine lv_dload_n S.1 S.2.1 dX10_bitsOf_0 rfl (lv_at hl 0 rfl) ?_
  refine lv_dconst0 S.1 S.2.1 dX10_bitsOf_1 ?_
  refine lv_dcmp S.1 S.2.1 dX10_bitsOf_2 ?_
  refine lv_if_gt (tgt := 8) S.1 S.2.1 dX10_bitsOf_3 (by decide) (fun c1 => ?_) (fun c1 => ?_)
  · have h := h.1 c1
    refine lv_dload_n S.1 S.2.1 dX10_bitsOf_8 rfl (lv_at hl 0 rfl) ?_
    refine lv_dstore (lv' := [(4, .double x0), (0, .double x0), (2, .int x2), (3, .int x3)]) S.1 S.2.1 dX10_bitsOf_9 hl (by decide) rfl (fun ls hl => ?_)
    refine lv_iconst (v := (nI 0)) S.1 S.2.1 dX10_bitsOf_11 (by decide) ?_
    refine lv_istore (lv' := [(6, .int (nI 0)), (4, .double x0), (0, .double x0), (2, .int x2), (3, .int x3)]) S.1 S.2.1 dX10_bitsOf_12 hl (by decide) rfl (fun ls hl => ?_)
    refine lv_iconst (v := (nI 0)) S.1 S.2.1 dX10_bitsOf_14 (by decide) ?_
    refine lv_istore (lv' := [(7, .int (nI 0)), (6, .int (nI 0)), (4, .double x0), (0, .double x0), (2, .int x2), (3, .int x3)]) S.1 S.2.1 dX10_bitsOf_15 hl (by decide) rfl (fun ls hl => ?_)
    obtain ⟨n9, h⟩ := h
    exact hB17  n9 x2 x3 x0 (nI 0) (nI 0) H locs ls hM hS (lv_sub hl [4, 5, 2, 1, 0] rfl) h
  · have h := h.2 c1
    refine lv_lconst (v := lN 0) S.1 S.2.1 dX10_bitsOf_6 rfl ?_
    exact mz_lret S hr hlk hM hS (Nat.le_of_ble_eq_true rfl) (Nat.le_of_ble_eq_true rfl) dX10_bitsOf_7 ⟨_, rfl, rfl, h⟩
set_option maxRecDepth 100000 in
set_option maxHeartbeats 4000000 in
theorem c_X10_meanAttemptsBits {l : Launch} {G : mgT} {μ : mmT} {o : Nat} {Q : Int64 → Prop} {X : String → Prop} (hl0 : l.stackTraces = false) (h : w_X10_meanAttemptsBits G μ o Q X) : MX G l yX10_meanAttemptsBits cX10_meanAttemptsBits 1 (some .long) { frames := 6, cells := 1, slots := 6, locals := 100 } [.ref o] μ (pL (fun r μ' => μ' = μ ∧ Q r)) (fun E μ' => μ' = μ ∧ X E) := by
  refine mz_MX (by decide +kernel) (Nat.le_of_ble_eq_true rfl) (fun p e s m args below meth c S hG hr hlk hnm hex => ?_)
  intro H locs ls hM hS hl
  have hl : lv_has ls 1 [(0, .ref o)] := hl
  unfold w_X10_meanAttemptsBits at h
  refine lv_aload_n S.1 S.2.1 dX10_meanAttemptsBits_0 rfl (lv_at hl 0 rfl) ?_
  obtain ⟨k1, h⟩ := h
  refine mz_getr S hG hM cf_9 fd_288 tw_347 dX10_meanAttemptsBits_1 k1 ?_
  obtain ⟨a2, e3, h⟩ := h
  refine mz_o0 e3 ?_
  obtain ⟨k4, h⟩ := h
  refine mz_geti S hG hM cf_7 fd_230 tw_206 dX10_meanAttemptsBits_4 k4 ?_
  refine lv_if_ne (tgt := 21) S.1 S.2.1 dX10_meanAttemptsBits_7 (by decide) (fun c5 => ?_) (fun c5 => ?_)
  · have h := h.1 c5
    refine lv_aload_n S.1 S.2.1 dX10_meanAttemptsBits_21 rfl (lv_at hl 0 rfl) ?_
    refine mz_V S hG hM hS cf_9 k1 (As := []) (rest := []) (c_X10_meanOfAttempts h) yf_X10_meanOfAttempts tw_1292 tw_1294 ts_15 ⟨Nat.le_of_ble_eq_true rfl, Nat.le_of_ble_eq_true rfl⟩ ⟨(Nat.le_of_ble_eq_true rfl), (Nat.le_of_ble_eq_true rfl)⟩ rfl hl.1 rfl (Nat.le_of_ble_eq_true rfl) dX10_meanAttemptsBits_22 (fun v9 μ9 H locs hp hM hS => ?_)
    obtain ⟨u6, rfl, e9, h⟩ := hp
    rw [e9] at hM
    refine W.cs (cells' := 0) (slots' := 0) rfl rfl ?_
    refine lv_bipush (v := (nI 52)) S.1 S.2.1 dX10_meanAttemptsBits_25 (by decide) ?_
    refine lv_sipush (v := (nI 1023)) S.1 S.2.1 dX10_meanAttemptsBits_27 (by decide) ?_
    refine mz_S S hG hM hS (As := [.double u6, .int (nI 52), .int (nI 1023)]) (rest := []) (c_X10_bitsOf h) yf_X10_bitsOf tw_1307 tw_1308 ⟨Nat.le_of_ble_eq_true rfl, Nat.le_of_ble_eq_true rfl⟩ ⟨(Nat.le_of_ble_eq_true rfl), (Nat.le_of_ble_eq_true rfl)⟩ rfl hl.1 rfl (Nat.le_of_ble_eq_true rfl) dX10_meanAttemptsBits_30 (fun v9 μ9 H locs hp hM hS => ?_)
    obtain ⟨u7, rfl, e9, h⟩ := hp
    rw [e9] at hM
    refine W.cs (cells' := 0) (slots' := 0) rfl rfl ?_
    exact vx_ret (mz_lret S hr hlk hM hS (Nat.le_of_ble_eq_true rfl) (Nat.le_of_ble_eq_true rfl) dX10_meanAttemptsBits_33 ⟨_, rfl, rfl, h⟩)
  · have h := h.2 c5
    exact mz_throwW S hl0 hG hM hS hex hlk hl.1 xf_275_279 (j := 19) rfl dX10_meanAttemptsBits_10 dX10_meanAttemptsBits_13 dX10_meanAttemptsBits_14 dX10_meanAttemptsBits_17 dX10_meanAttemptsBits_20 (Nat.le_of_ble_eq_true rfl) (Nat.le_of_ble_eq_true rfl) (Nat.le_of_ble_eq_true rfl) (Nat.le_of_ble_eq_true rfl) (Nat.le_of_ble_eq_true rfl) (Nat.le_of_ble_eq_true rfl) ⟨rfl, h⟩
set_option maxRecDepth 100000 in
set_option maxHeartbeats 4000000 in
theorem c_X10_rateOfDeliveries {l : Launch} {G : mgT} {μ : mmT} {o : Nat} {Q : UInt32 → Prop} (h : w_X10_rateOfDeliveries G μ o Q) : MC G l yX10_rateOfDeliveries cX10_rateOfDeliveries 1 (some .float) { frames := 0, cells := 0, slots := 0, locals := 0 } [.ref o] μ (pF (fun r μ' => μ' = μ ∧ Q r)) := by
  refine mz_MC (by decide +kernel) (Nat.le_of_ble_eq_true rfl) (fun p e s m args below meth c S hG hr hlk hnm => ?_)
  intro H locs ls hM hS hl
  have hl : lv_has ls 1 [(0, .ref o)] := hl
  unfold w_X10_rateOfDeliveries at h
  refine lv_aload_n S.1 S.2.1 dX10_rateOfDeliveries_0 rfl (lv_at hl 0 rfl) ?_
  obtain ⟨k1, h⟩ := h
  refine mz_getr S hG hM cf_9 fd_288 tw_347 dX10_rateOfDeliveries_1 k1 ?_
  obtain ⟨a2, e3, h⟩ := h
  refine mz_o0 e3 ?_
  obtain ⟨k4, h⟩ := h
  refine mz_getr S hG hM cf_7 fd_227 tw_200 dX10_rateOfDeliveries_4 k4 ?_
  obtain ⟨a5, e6, h⟩ := h
  refine mz_o0 e6 ?_
  obtain ⟨k7, h⟩ := h
  refine mz_geti S hG hM cf_8 fd_257 tw_69 dX10_rateOfDeliveries_7 k7 ?_
  refine lv_i2f S.1 S.2.1 dX10_rateOfDeliveries_10 ?_
  refine lv_aload_n S.1 S.2.1 dX10_rateOfDeliveries_11 rfl (lv_at hl 0 rfl) ?_
  refine mz_getr S hG hM cf_9 fd_288 tw_347 dX10_rateOfDeliveries_12 k1 ?_
  refine mz_o0 e3 ?_
  refine mz_getr S hG hM cf_7 fd_227 tw_200 dX10_rateOfDeliveries_15 k4 ?_
  refine mz_o0 e6 ?_
  refine mz_geti S hG hM cf_8 fd_262 tw_83 dX10_rateOfDeliveries_18 k7 ?_
  refine lv_i2f S.1 S.2.1 dX10_rateOfDeliveries_21 ?_
  obtain ⟨g8, h⟩ := h
  refine lv_fdiv S.1 S.2.1 dX10_rateOfDeliveries_22 g8 ?_
  exact mz_fret S hr hlk hM hS (Nat.le_of_ble_eq_true rfl) (Nat.le_of_ble_eq_true rfl) dX10_rateOfDeliveries_23 ⟨_, rfl, rfl, h⟩
set_option maxRecDepth 100000 in
set_option maxHeartbeats 4000000 in
theorem c_X10_deliveryRate {l : Launch} {G : mgT} {μ : mmT} {o : Nat} {Q : UInt32 → Prop} {X : String → Prop} (hl0 : l.stackTraces = false) (h : w_X10_deliveryRate G μ o Q X) : MX G l yX10_deliveryRate cX10_deliveryRate 1 (some .float) { frames := 6, cells := 1, slots := 6, locals := 100 } [.ref o] μ (pF (fun r μ' => μ' = μ ∧ Q r)) (fun E μ' => μ' = μ ∧ X E) := by
  refine mz_MX (by decide +kernel) (Nat.le_of_ble_eq_true rfl) (fun p e s m args below meth c S hG hr hlk hnm hex => ?_)
  intro H locs ls hM hS hl
  have hl : lv_has ls 1 [(0, .ref o)] := hl
  unfold w_X10_deliveryRate at h
  refine lv_aload_n S.1 S.2.1 dX10_deliveryRate_0 rfl (lv_at hl 0 rfl) ?_
  obtain ⟨k1, h⟩ := h
  refine mz_getr S hG hM cf_9 fd_288 tw_347 dX10_deliveryRate_1 k1 ?_
  obtain ⟨a2, e3, h⟩ := h
  refine mz_o0 e3 ?_
  obtain ⟨k4, h⟩ := h
  refine mz_getr S hG hM cf_7 fd_227 tw_200 dX10_deliveryRate_4 k4 ?_
  obtain ⟨a5, e6, h⟩ := h
  refine mz_o0 e6 ?_
  obtain ⟨k7, h⟩ := h
  refine mz_geti S hG hM cf_8 fd_262 tw_83 dX10_deliveryRate_7 k7 ?_
  refine lv_if_ne (tgt := 24) S.1 S.2.1 dX10_deliveryRate_10 (by decide) (fun c8 => ?_) (fun c8 => ?_)
  · have h := h.1 c8
    refine lv_aload_n S.1 S.2.1 dX10_deliveryRate_24 rfl (lv_at hl 0 rfl) ?_
    refine mz_V S hG hM hS cf_9 k1 (As := []) (rest := []) (c_X10_rateOfDeliveries h) yf_X10_rateOfDeliveries tw_1319 tw_1321 ts_16 ⟨Nat.le_of_ble_eq_true rfl, Nat.le_of_ble_eq_true rfl⟩ ⟨(Nat.le_of_ble_eq_true rfl), (Nat.le_of_ble_eq_true rfl)⟩ rfl hl.1 rfl (Nat.le_of_ble_eq_true rfl) dX10_deliveryRate_25 (fun v9 μ9 H locs hp hM hS => ?_)
    obtain ⟨u9, rfl, e9, h⟩ := hp
    rw [e9] at hM
    refine W.cs (cells' := 0) (slots' := 0) rfl rfl ?_
    exact vx_ret (mz_fret S hr hlk hM hS (Nat.le_of_ble_eq_true rfl) (Nat.le_of_ble_eq_true rfl) dX10_deliveryRate_28 ⟨_, rfl, rfl, h⟩)
  · have h := h.2 c8
    exact mz_throwW S hl0 hG hM hS hex hlk hl.1 xf_275_279 (j := 20) rfl dX10_deliveryRate_13 dX10_deliveryRate_16 dX10_deliveryRate_17 dX10_deliveryRate_20 dX10_deliveryRate_23 (Nat.le_of_ble_eq_true rfl) (Nat.le_of_ble_eq_true rfl) (Nat.le_of_ble_eq_true rfl) (Nat.le_of_ble_eq_true rfl) (Nat.le_of_ble_eq_true rfl) (Nat.le_of_ble_eq_true rfl) ⟨rfl, h⟩
set_option maxRecDepth 100000 in
set_option maxHeartbeats 4000000 in
theorem c_X10_deliveryRateBits {l : Launch} {G : mgT} {μ : mmT} {o : Nat} {Q : Int32 → Prop} {X : String → Prop} (hl0 : l.stackTraces = false) (h : w_X10_deliveryRateBits G μ o Q X) : MX G l yX10_deliveryRateBits cX10_deliveryRateBits 1 (some .int) { frames := 6, cells := 1, slots := 6, locals := 100 } [.ref o] μ (pI (fun r μ' => μ' = μ ∧ Q r)) (fun E μ' => μ' = μ ∧ X E) := by
  refine mz_MX (by decide +kernel) (Nat.le_of_ble_eq_true rfl) (fun p e s m args below meth c S hG hr hlk hnm hex => ?_)
  intro H locs ls hM hS hl
  have hl : lv_has ls 1 [(0, .ref o)] := hl
  unfold w_X10_deliveryRateBits at h
  refine lv_aload_n S.1 S.2.1 dX10_deliveryRateBits_0 rfl (lv_at hl 0 rfl) ?_
  obtain ⟨k1, h⟩ := h
  refine mz_getr S hG hM cf_9 fd_288 tw_347 dX10_deliveryRateBits_1 k1 ?_
  obtain ⟨a2, e3, h⟩ := h
  refine mz_o0 e3 ?_
  obtain ⟨k4, h⟩ := h
  refine mz_getr S hG hM cf_7 fd_227 tw_200 dX10_deliveryRateBits_4 k4 ?_
  obtain ⟨a5, e6, h⟩ := h
  refine mz_o0 e6 ?_
  obtain ⟨k7, h⟩ := h
  refine mz_geti S hG hM cf_8 fd_262 tw_83 dX10_deliveryRateBits_7 k7 ?_
  refine lv_if_ne (tgt := 24) S.1 S.2.1 dX10_deliveryRateBits_10 (by decide) (fun c8 => ?_) (fun c8 => ?_)
  · have h := h.1 c8
    refine lv_aload_n S.1 S.2.1 dX10_deliveryRateBits_24 rfl (lv_at hl 0 rfl) ?_
    refine mz_V S hG hM hS cf_9 k1 (As := []) (rest := []) (c_X10_rateOfDeliveries h) yf_X10_rateOfDeliveries tw_1319 tw_1321 ts_16 ⟨Nat.le_of_ble_eq_true rfl, Nat.le_of_ble_eq_true rfl⟩ ⟨(Nat.le_of_ble_eq_true rfl), (Nat.le_of_ble_eq_true rfl)⟩ rfl hl.1 rfl (Nat.le_of_ble_eq_true rfl) dX10_deliveryRateBits_25 (fun v9 μ9 H locs hp hM hS => ?_)
    obtain ⟨u9, rfl, e9, h⟩ := hp
    rw [e9] at hM
    refine W.cs (cells' := 0) (slots' := 0) rfl rfl ?_
    obtain ⟨g10, h⟩ := h
    refine lv_f2d S.1 S.2.1 dX10_deliveryRateBits_28 g10 ?_
    refine lv_bipush (v := (nI 23)) S.1 S.2.1 dX10_deliveryRateBits_29 (by decide) ?_
    refine lv_bipush (v := (nI 127)) S.1 S.2.1 dX10_deliveryRateBits_31 (by decide) ?_
    refine mz_S S hG hM hS (As := [.double (FP.f2d u9), .int (nI 23), .int (nI 127)]) (rest := []) (c_X10_bitsOf h) yf_X10_bitsOf tw_1307 tw_1308 ⟨Nat.le_of_ble_eq_true rfl, Nat.le_of_ble_eq_true rfl⟩ ⟨(Nat.le_of_ble_eq_true rfl), (Nat.le_of_ble_eq_true rfl)⟩ rfl hl.1 rfl (Nat.le_of_ble_eq_true rfl) dX10_deliveryRateBits_33 (fun v9 μ9 H locs hp hM hS => ?_)
    obtain ⟨u11, rfl, e9, h⟩ := hp
    rw [e9] at hM
    refine W.cs (cells' := 0) (slots' := 0) rfl rfl ?_
    refine lv_l2i S.1 S.2.1 dX10_deliveryRateBits_36 rfl ?_
    exact vx_ret (mz_iret S hr hlk hM hS rfl (Nat.le_of_ble_eq_true rfl) (Nat.le_of_ble_eq_true rfl) dX10_deliveryRateBits_37 ⟨_, rfl, rfl, h⟩)
  · have h := h.2 c8
    exact mz_throwW S hl0 hG hM hS hex hlk hl.1 xf_275_279 (j := 20) rfl dX10_deliveryRateBits_13 dX10_deliveryRateBits_16 dX10_deliveryRateBits_17 dX10_deliveryRateBits_20 dX10_deliveryRateBits_23 (Nat.le_of_ble_eq_true rfl) (Nat.le_of_ble_eq_true rfl) (Nat.le_of_ble_eq_true rfl) (Nat.le_of_ble_eq_true rfl) (Nat.le_of_ble_eq_true rfl) (Nat.le_of_ble_eq_true rfl) ⟨rfl, h⟩
set_option maxRecDepth 100000 in
set_option maxHeartbeats 4000000 in
theorem c_X10_napLengthsAgree {l : Launch} {G : mgT} {μ : mmT} {Q : Int32 → Prop} (h : w_X10_napLengthsAgree G μ Q) : MC G l yX10_napLengthsAgree cX10_napLengthsAgree 1 (some .boolean) { frames := 1, cells := 0, slots := 0, locals := 23 } [] μ (pI (fun r μ' => μ' = μ ∧ Q r)) := by
  refine mz_MC (by decide +kernel) (Nat.le_of_ble_eq_true rfl) (fun p e s m args below meth c S hG hr hlk hnm => ?_)
  have hB2 : ∀ (n : Nat) (x0 : Int32) (H : Heap) (locs : List Loc) (ls : Array Slot), Mm G μ H → va_S (Ah G) s.heap H locs → lv_has ls 1 [(0, .int x0)] → w_X10_napLengthsAgree_l2 G μ Q  n x0 → W p l e { frames := 1, cells := 0, slots := 0, locals := 23 } s m args below meth c H locs 0 0 (MQ below (mQ G (pI (fun r μ' => μ' = μ ∧ Q r))) args s 0 0 (Ah G)) (F0 m 2 ls []) := by
    intro  n
    induction n with
    | zero =>
      intro x0 H locs ls hM hS hl h
      exact False.elim h
    | succ n ih =>
      intro x0 H locs ls hM hS hl h
      have h : w_X10_napLengthsAgree_b2 G μ Q  (w_X10_napLengthsAgree_l2 G μ Q  n) x0 := h
      unfold w_X10_napLengthsAgree_b2 at h
      refine lv_iload_n S.1 S.2.1 dX10_napLengthsAgree_2 rfl (lv_at hl 0 rfl) ?_
      refine lv_bipush (v := (nI 40)) S.1 S.2.1 dX10_napLengthsAgree_3 (by decide) ?_
      refine lv_icmp_gt (tgt := 28) S.1 S.2.1 dX10_napLengthsAgree_5 (by decide) (fun c1 => ?_) (fun c1 => ?_)
      · have h := h.1 c1
        refine lv_iconst (v := (nI 1)) S.1 S.2.1 dX10_napLengthsAgree_28 (by decide) ?_
        exact mz_iret S hr hlk hM hS rfl (Nat.le_of_ble_eq_true rfl) (Nat.le_of_ble_eq_true rfl) dX10_napLengthsAgree_29 ⟨_, rfl, rfl, h⟩
      · have h := h.2 c1
        refine lv_iload_n S.1 S.2.1 dX10_napLengthsAgree_8 rfl (lv_at hl 0 rfl) ?_
        refine mz_S S hG hM hS (As := [.int x0]) (rest := []) (c_X10_shiftedNap h) yf_X10_shiftedNap tw_437 tw_438 ⟨Nat.le_of_ble_eq_true rfl, Nat.le_of_ble_eq_true rfl⟩ ⟨(Nat.le_of_ble_eq_true rfl), (Nat.le_of_ble_eq_true rfl)⟩ rfl hl.1 rfl (Nat.le_of_ble_eq_true rfl) dX10_napLengthsAgree_9 (fun v9 μ9 H locs hp hM hS => ?_)
        obtain ⟨u2, rfl, e9, h⟩ := hp
        rw [e9] at hM
        refine W.cs (cells' := 0) (slots' := 0) rfl rfl ?_
        refine lv_iload_n S.1 S.2.1 dX10_napLengthsAgree_12 rfl (lv_at hl 0 rfl) ?_
        refine mz_S S hG hM hS (As := [.int x0]) (rest := [.long u2]) (c_X10_doubledNap h) yf_X10_doubledNap tw_440 tw_441 ⟨Nat.le_of_ble_eq_true rfl, Nat.le_of_ble_eq_true rfl⟩ ⟨(Nat.le_of_ble_eq_true rfl), (Nat.le_of_ble_eq_true rfl)⟩ rfl hl.1 rfl (Nat.le_of_ble_eq_true rfl) dX10_napLengthsAgree_13 (fun v9 μ9 H locs hp hM hS => ?_)
        obtain ⟨u3, rfl, e9, h⟩ := hp
        rw [e9] at hM
        refine W.cs (cells' := 0) (slots' := 0) rfl rfl ?_
        refine W.lcmp S.1 S.2.1 dX10_napLengthsAgree_16 ?_
        refine lv_if_eq (tgt := 22) S.1 S.2.1 dX10_napLengthsAgree_17 (by decide) (fun c4 => ?_) (fun c4 => ?_)
        · have h := h.1 c4
          refine lv_iinc (v := (x0 + nI 1)) (lv' := [(0, .int (x0 + nI 1))]) S.1 S.2.1 dX10_napLengthsAgree_22 hl (k := 0) rfl rfl (by decide) rfl (fun ls hl => ?_)
          refine lv_goto (tgt := 2) S.1 S.2.1 dX10_napLengthsAgree_25 (by decide) ?_
          exact ih (x0 + nI 1) H locs ls hM hS (lv_sub hl [0] rfl) h
        · have h := h.2 c4
          refine lv_iconst (v := (nI 0)) S.1 S.2.1 dX10_napLengthsAgree_20 (by decide) ?_
          exact mz_iret S hr hlk hM hS rfl (Nat.le_of_ble_eq_true rfl) (Nat.le_of_ble_eq_true rfl) dX10_napLengthsAgree_21 ⟨_, rfl, rfl, h⟩
  intro H locs ls hM hS hl
  have hl : lv_has ls 1 [] := hl
  unfold w_X10_napLengthsAgree at h
  refine lv_iconst (v := (nI 0)) S.1 S.2.1 dX10_napLengthsAgree_0 (by decide) ?_
  refine lv_istore_n (lv' := [(0, .int (nI 0))]) S.1 S.2.1 dX10_napLengthsAgree_1 rfl hl (by decide) rfl (fun ls hl => ?_)
  obtain ⟨n9, h⟩ := h
  exact hB2  n9 (nI 0) H locs ls hM hS (lv_sub hl [0] rfl) h
set_option maxRecDepth 100000 in
set_option maxHeartbeats 4000000 in
theorem c_X10_isConsistent {l : Launch} {G : mgT} {μ : mmT} {o : Nat} {Q : Int32 → Prop} (h : w_X10_isConsistent G μ o Q) : MC G l yX10_isConsistent cX10_isConsistent 1 (some .boolean) { frames := 2, cells := 0, slots := 0, locals := 43 } [.ref o] μ (pI (fun r μ' => μ' = μ ∧ Q r)) := by
  refine mz_MC (by decide +kernel) (Nat.le_of_ble_eq_true rfl) (fun p e s m args below meth c S hG hr hlk hnm => ?_)
  have hB69 : ∀ (s0 : Int32) (H : Heap) (locs : List Loc) (ls : Array Slot), Mm G μ H → va_S (Ah G) s.heap H locs → lv_has ls 1 [(0, .ref o)] → w_X10_isConsistent_b69 G μ o Q  s0 → W p l e { frames := 2, cells := 0, slots := 0, locals := 43 } s m args below meth c H locs 0 0 (MQ below (mQ G (pI (fun r μ' => μ' = μ ∧ Q r))) args s 0 0 (Ah G)) (F0 m 69 ls [.int s0]) := by
    intro  s0 H locs ls hM hS hl h
    unfold w_X10_isConsistent_b69 at h
    obtain ⟨f3, h⟩ := h
    exact mz_iret S hr hlk hM hS (mz_nZ f3) (Nat.le_of_ble_eq_true rfl) (Nat.le_of_ble_eq_true rfl) dX10_isConsistent_69 ⟨_, rfl, rfl, h⟩
  have hB68 : ∀  (H : Heap) (locs : List Loc) (ls : Array Slot), Mm G μ H → va_S (Ah G) s.heap H locs → lv_has ls 1 [(0, .ref o)] → w_X10_isConsistent_b68 G μ o Q   → W p l e { frames := 2, cells := 0, slots := 0, locals := 43 } s m args below meth c H locs 0 0 (MQ below (mQ G (pI (fun r μ' => μ' = μ ∧ Q r))) args s 0 0 (Ah G)) (F0 m 68 ls []) := by
    intro   H locs ls hM hS hl h
    unfold w_X10_isConsistent_b68 at h
    refine lv_iconst (v := (nI 0)) S.1 S.2.1 dX10_isConsistent_68 (by decide) ?_
    exact hB69  (nI 0) H locs ls hM hS (lv_sub hl [0] rfl) h
  intro H locs ls hM hS hl
  have hl : lv_has ls 1 [(0, .ref o)] := hl
  unfold w_X10_isConsistent at h
  refine mz_S S hG hM hS (As := []) (rest := []) (c_X10_napLengthsAgree h) yf_X10_napLengthsAgree tw_434 tw_435 ⟨Nat.le_of_ble_eq_true rfl, Nat.le_of_ble_eq_true rfl⟩ ⟨(Nat.le_of_ble_eq_true rfl), (Nat.le_of_ble_eq_true rfl)⟩ rfl hl.1 rfl (Nat.le_of_ble_eq_true rfl) dX10_isConsistent_0 (fun v9 μ9 H locs hp hM hS => ?_)
  obtain ⟨u1, rfl, e9, h⟩ := hp
  rw [e9] at hM
  refine W.cs (cells' := 0) (slots' := 0) rfl rfl ?_
  refine lv_if_eq (tgt := 68) S.1 S.2.1 dX10_isConsistent_3 (by decide) (fun c2 => ?_) (fun c2 => ?_)
  · have h := h.1 c2
    exact hB68   H locs ls hM hS (lv_sub hl [0] rfl) h
  · have h := h.2 c2
    refine lv_aload_n S.1 S.2.1 dX10_isConsistent_6 rfl (lv_at hl 0 rfl) ?_
    obtain ⟨k4, h⟩ := h
    refine mz_getr S hG hM cf_9 fd_288 tw_347 dX10_isConsistent_7 k4 ?_
    obtain ⟨a5, e6, h⟩ := h
    refine mz_o0 e6 ?_
    obtain ⟨k7, h⟩ := h
    refine mz_geti S hG hM cf_7 fd_230 tw_206 dX10_isConsistent_10 k7 ?_
    refine lv_aload_n S.1 S.2.1 dX10_isConsistent_13 rfl (lv_at hl 0 rfl) ?_
    refine mz_getr S hG hM cf_9 fd_288 tw_347 dX10_isConsistent_14 k4 ?_
    refine mz_o0 e6 ?_
    refine mz_getr S hG hM cf_7 fd_227 tw_200 dX10_isConsistent_17 k7 ?_
    obtain ⟨a8, e9, h⟩ := h
    refine mz_o0 e9 ?_
    obtain ⟨k10, h⟩ := h
    refine mz_V S hG hM hS cf_8 k10 (As := []) (rest := [.int (mI μ 230 a5)]) (c_X9_existing h) yf_X9_existing tw_426 tw_427 tw_428 ⟨Nat.le_of_ble_eq_true rfl, Nat.le_of_ble_eq_true rfl⟩ ⟨(Nat.le_of_ble_eq_true rfl), (Nat.le_of_ble_eq_true rfl)⟩ rfl hl.1 rfl (Nat.le_of_ble_eq_true rfl) dX10_isConsistent_20 (fun v9 μ9 H locs hp hM hS => ?_)
    obtain ⟨u11, rfl, e9, h⟩ := hp
    rw [e9] at hM
    refine W.cs (cells' := 0) (slots' := 0) rfl rfl ?_
    refine lv_icmp_ne (tgt := 68) S.1 S.2.1 dX10_isConsistent_23 (by decide) (fun c12 => ?_) (fun c12 => ?_)
    · have h := h.1 c12
      exact hB68   H locs ls hM hS (lv_sub hl [0] rfl) h
    · have h := h.2 c12
      refine lv_aload_n S.1 S.2.1 dX10_isConsistent_26 rfl (lv_at hl 0 rfl) ?_
      refine mz_getr S hG hM cf_9 fd_288 tw_347 dX10_isConsistent_27 k4 ?_
      refine lv_bipush (v := (nI 102)) S.1 S.2.1 dX10_isConsistent_30 (by decide) ?_
      refine mz_o1 e6 ?_
      refine mz_V S hG hM hS cf_7 k7 (As := [.int (nI 102)]) (rest := []) (c_X8_messagesWithStatus h) yf_X8_messagesWithStatus tw_443 tw_444 tw_445 ⟨Nat.le_of_ble_eq_true rfl, Nat.le_of_ble_eq_true rfl⟩ ⟨(Nat.le_of_ble_eq_true rfl), (Nat.le_of_ble_eq_true rfl)⟩ rfl hl.1 rfl (Nat.le_of_ble_eq_true rfl) dX10_isConsistent_32 (fun v9 μ9 H locs hp hM hS => ?_)
      obtain ⟨u13, rfl, e9, h⟩ := hp
      rw [e9] at hM
      refine W.cs (cells' := 0) (slots' := 0) rfl rfl ?_
      refine lv_aload_n S.1 S.2.1 dX10_isConsistent_35 rfl (lv_at hl 0 rfl) ?_
      refine mz_getr S hG hM cf_9 fd_288 tw_347 dX10_isConsistent_36 k4 ?_
      refine mz_o0 e6 ?_
      refine mz_V S hG hM hS cf_7 k7 (As := []) (rest := [.int u13]) (c_X8_flyingCrows h) yf_X8_flyingCrows tw_447 tw_448 tw_449 ⟨Nat.le_of_ble_eq_true rfl, Nat.le_of_ble_eq_true rfl⟩ ⟨(Nat.le_of_ble_eq_true rfl), (Nat.le_of_ble_eq_true rfl)⟩ rfl hl.1 rfl (Nat.le_of_ble_eq_true rfl) dX10_isConsistent_39 (fun v9 μ9 H locs hp hM hS => ?_)
      obtain ⟨u14, rfl, e9, h⟩ := hp
      rw [e9] at hM
      refine W.cs (cells' := 0) (slots' := 0) rfl rfl ?_
      refine lv_icmp_ne (tgt := 68) S.1 S.2.1 dX10_isConsistent_42 (by decide) (fun c15 => ?_) (fun c15 => ?_)
      · have h := h.1 c15
        exact hB68   H locs ls hM hS (lv_sub hl [0] rfl) h
      · have h := h.2 c15
        refine lv_aload_n S.1 S.2.1 dX10_isConsistent_45 rfl (lv_at hl 0 rfl) ?_
        refine mz_getr S hG hM cf_9 fd_288 tw_347 dX10_isConsistent_46 k4 ?_
        refine lv_bipush (v := (nI 100)) S.1 S.2.1 dX10_isConsistent_49 (by decide) ?_
        refine mz_o1 e6 ?_
        refine mz_V S hG hM hS cf_7 k7 (As := [.int (nI 100)]) (rest := []) (c_X8_messagesWithStatus h) yf_X8_messagesWithStatus tw_443 tw_444 tw_445 ⟨Nat.le_of_ble_eq_true rfl, Nat.le_of_ble_eq_true rfl⟩ ⟨(Nat.le_of_ble_eq_true rfl), (Nat.le_of_ble_eq_true rfl)⟩ rfl hl.1 rfl (Nat.le_of_ble_eq_true rfl) dX10_isConsistent_51 (fun v9 μ9 H locs hp hM hS => ?_)
        obtain ⟨u16, rfl, e9, h⟩ := hp
        rw [e9] at hM
        refine W.cs (cells' := 0) (slots' := 0) rfl rfl ?_
        refine lv_aload_n S.1 S.2.1 dX10_isConsistent_54 rfl (lv_at hl 0 rfl) ?_
        refine mz_getr S hG hM cf_9 fd_288 tw_347 dX10_isConsistent_55 k4 ?_
        refine mz_o0 e6 ?_
        refine mz_V S hG hM hS cf_7 k7 (As := []) (rest := [.int u16]) (c_X8_messagesInInboxes h) yf_X8_messagesInInboxes tw_451 tw_452 tw_453 ⟨Nat.le_of_ble_eq_true rfl, Nat.le_of_ble_eq_true rfl⟩ ⟨(Nat.le_of_ble_eq_true rfl), (Nat.le_of_ble_eq_true rfl)⟩ rfl hl.1 rfl (Nat.le_of_ble_eq_true rfl) dX10_isConsistent_58 (fun v9 μ9 H locs hp hM hS => ?_)
        obtain ⟨u17, rfl, e9, h⟩ := hp
        rw [e9] at hM
        refine W.cs (cells' := 0) (slots' := 0) rfl rfl ?_
        refine lv_icmp_ne (tgt := 68) S.1 S.2.1 dX10_isConsistent_61 (by decide) (fun c18 => ?_) (fun c18 => ?_)
        · have h := h.1 c18
          exact hB68   H locs ls hM hS (lv_sub hl [0] rfl) h
        · have h := h.2 c18
          refine lv_iconst (v := (nI 1)) S.1 S.2.1 dX10_isConsistent_64 (by decide) ?_
          refine lv_goto (tgt := 69) S.1 S.2.1 dX10_isConsistent_65 (by decide) ?_
          exact hB69  (nI 1) H locs ls hM hS (lv_sub hl [0] rfl) h
set_option maxRecDepth 100000 in
set_option maxHeartbeats 4000000 in
theorem c_J5_ensureCapacityInternal_d00df {l : Launch} {G : mgT} {μ : mmT} {o : Nat} {x1 : Int32} {Q : Prop} (h : w_J5_ensureCapacityInternal_d00df G μ o x1 Q) : MC G l yJ5_ensureCapacityInternal_d00df cJ5_ensureCapacityInternal_d00df 3 none { frames := 0, cells := 0, slots := 0, locals := 0 } [.ref o, .int x1] μ (pV (fun μ' => μ' = μ ∧ Q)) := by
  refine mz_MC (by decide +kernel) (Nat.le_of_ble_eq_true rfl) (fun p e s m args below meth c S hG hr hlk hnm => ?_)
  intro H locs ls hM hS hl
  have hl : lv_has ls 3 [(0, .ref o), (1, .int x1)] := hl
  unfold w_J5_ensureCapacityInternal_d00df at h
  refine lv_aload_n S.1 S.2.1 dJ5_ensureCapacityInternal_d00df_0 rfl (lv_at hl 0 rfl) ?_
  obtain ⟨k1, h⟩ := h
  refine mz_getr S hG hM cf_0 fd_0 tw_332 dJ5_ensureCapacityInternal_d00df_1 k1 ?_
  obtain ⟨a2, e3, h⟩ := h
  refine mz_o0 e3 ?_
  obtain ⟨k4, h⟩ := h
  refine mz_alen (j := 0) S hG hM dJ5_ensureCapacityInternal_d00df_4 k4 ?_
  refine lv_aload_n S.1 S.2.1 dJ5_ensureCapacityInternal_d00df_5 rfl (lv_at hl 0 rfl) ?_
  refine mz_geti S hG hM cf_0 fd_1 tw_333 dJ5_ensureCapacityInternal_d00df_6 k1 ?_
  refine lv_ishr S.1 S.2.1 dJ5_ensureCapacityInternal_d00df_9 ?_
  refine lv_istore_n (lv' := [(2, .int ((nI (mN μ a2)) >>> ((mI μ 1 o) &&& 31))), (0, .ref o), (1, .int x1)]) S.1 S.2.1 dJ5_ensureCapacityInternal_d00df_10 rfl hl (by decide) rfl (fun ls hl => ?_)
  refine lv_iload_n S.1 S.2.1 dJ5_ensureCapacityInternal_d00df_11 rfl (lv_at hl 2 rfl) ?_
  refine lv_iload_n S.1 S.2.1 dJ5_ensureCapacityInternal_d00df_12 rfl (lv_at hl 0 rfl) ?_
  refine lv_isub S.1 S.2.1 dJ5_ensureCapacityInternal_d00df_13 ?_
  obtain ⟨c5, h⟩ := h
  refine lv_if_le (tgt := 38) S.1 S.2.1 dJ5_ensureCapacityInternal_d00df_14 (by decide) (fun _ => ?_) (fun c => absurd c5 c)
  exact mz_vret S hr hlk hM hS (Nat.le_of_ble_eq_true rfl) (Nat.le_of_ble_eq_true rfl) dJ5_ensureCapacityInternal_d00df_38 ⟨rfl, rfl, h⟩
set_option maxRecDepth 100000 in
set_option maxHeartbeats 4000000 in
theorem c_J5_setLength_d00df {l : Launch} {G : mgT} {μ : mmT} {o : Nat} {x1 : Int32} {Q : mmT → Prop} (h : w_J5_setLength_d00df G μ o x1 Q) : MC G l yJ5_setLength_d00df cJ5_setLength_d00df 2 none { frames := 1, cells := 0, slots := 0, locals := 22 } [.ref o, .int x1] μ (pV Q) := by
  refine mz_MC (by decide +kernel) (Nat.le_of_ble_eq_true rfl) (fun p e s m args below meth c S hG hr hlk hnm => ?_)
  have hB76 : ∀ (x1 : Int32) (μ : mmT) (H : Heap) (locs : List Loc) (ls : Array Slot), Mm G μ H → va_S (Ah G) s.heap H locs → lv_has ls 2 [(0, .ref o), (1, .int x1)] → w_J5_setLength_d00df_b76 G o Q  x1 μ → W p l e { frames := 1, cells := 0, slots := 0, locals := 22 } s m args below meth c H locs 0 0 (MQ below (mQ G (pV Q)) args s 0 0 (Ah G)) (F0 m 76 ls []) := by
    intro  x1 μ H locs ls hM hS hl h
    unfold w_J5_setLength_d00df_b76 at h
    refine lv_aload_n S.1 S.2.1 dJ5_setLength_d00df_76 rfl (lv_at hl 0 rfl) ?_
    refine lv_iload_n S.1 S.2.1 dJ5_setLength_d00df_77 rfl (lv_at hl 1 rfl) ?_
    obtain ⟨k5, h⟩ := h
    refine mz_puti S hG hM hS cf_0 fd_3 tw_336 dJ5_setLength_d00df_78 k5 rfl rfl (fun H locs hM hS hz9 => ?_)
    exact mz_vret S hr hlk hM hS (Nat.le_of_ble_eq_true rfl) (Nat.le_of_ble_eq_true rfl) dJ5_setLength_d00df_81 ⟨rfl, h⟩
  intro H locs ls hM hS hl
  have hl : lv_has ls 2 [(0, .ref o), (1, .int x1)] := hl
  unfold w_J5_setLength_d00df at h
  refine lv_iload_n S.1 S.2.1 dJ5_setLength_d00df_0 rfl (lv_at hl 1 rfl) ?_
  obtain ⟨c1, h⟩ := h
  refine lv_if_ge (tgt := 13) S.1 S.2.1 dJ5_setLength_d00df_1 (by decide) (fun _ => ?_) (fun c => absurd c1 c)
  refine lv_aload_n S.1 S.2.1 dJ5_setLength_d00df_13 rfl (lv_at hl 0 rfl) ?_
  refine lv_iload_n S.1 S.2.1 dJ5_setLength_d00df_14 rfl (lv_at hl 1 rfl) ?_
  obtain ⟨k2, h⟩ := h
  refine mz_V0 S hG hM hS (mz_recv hG hM cf_0 k2) (As := [.int x1]) (rest := []) (c_J5_ensureCapacityInternal_d00df h) yf_J5_ensureCapacityInternal_d00df tw_485 tw_487 (S.2.2.2.2 _ TT_x) ⟨Nat.le_of_ble_eq_true rfl, Nat.le_of_ble_eq_true rfl⟩ ⟨(Nat.le_of_ble_eq_true rfl), (Nat.le_of_ble_eq_true rfl)⟩ rfl hl.1 rfl (Nat.le_of_ble_eq_true rfl) dJ5_setLength_d00df_15 (fun v9 μ9 H locs hp hM hS => ?_)
  obtain ⟨rfl, e9, h⟩ := hp
  rw [e9] at hM
  refine W.cs (cells' := 0) (slots' := 0) rfl rfl ?_
  refine lv_aload_n S.1 S.2.1 dJ5_setLength_d00df_18 rfl (lv_at hl 0 rfl) ?_
  refine mz_geti S hG hM cf_0 fd_3 tw_336 dJ5_setLength_d00df_19 k2 ?_
  refine lv_iload_n S.1 S.2.1 dJ5_setLength_d00df_22 rfl (lv_at hl 1 rfl) ?_
  obtain ⟨c3, h⟩ := h
  refine lv_icmp_ge (tgt := 63) S.1 S.2.1 dJ5_setLength_d00df_23 (by decide) (fun _ => ?_) (fun c => absurd c3 c)
  refine lv_aload_n S.1 S.2.1 dJ5_setLength_d00df_63 rfl (lv_at hl 0 rfl) ?_
  refine mz_geti S hG hM cf_0 fd_3 tw_336 dJ5_setLength_d00df_64 k2 ?_
  refine lv_iload_n S.1 S.2.1 dJ5_setLength_d00df_67 rfl (lv_at hl 1 rfl) ?_
  refine lv_icmp_le (tgt := 76) S.1 S.2.1 dJ5_setLength_d00df_68 (by decide) (fun c4 => ?_) (fun c4 => ?_)
  · have h := h.1 c4
    exact hB76  x1 μ H locs ls hM hS (lv_sub hl [0, 1] rfl) h
  · have h := h.2 c4
    refine lv_aload_n S.1 S.2.1 dJ5_setLength_d00df_71 rfl (lv_at hl 0 rfl) ?_
    refine lv_iconst (v := (nI 1)) S.1 S.2.1 dJ5_setLength_d00df_72 (by decide) ?_
    refine mz_puti S hG hM hS cf_0 fd_2 tw_334 dJ5_setLength_d00df_73 k2 rfl rfl (fun H locs hM hS hz9 => ?_)
    exact hB76  x1 (sI μ 2 o (nI 1)) H locs ls hM hS (lv_sub hl [0, 1] rfl) h
set_option maxRecDepth 100000 in
set_option maxHeartbeats 4000000 in
theorem c_J4_setLength_d00df {l : Launch} {G : mgT} {μ : mmT} {o : Nat} {x1 : Int32} {Q : mmT → Prop} (h : w_J4_setLength_d00df G μ o x1 Q) : MC G l yJ4_setLength_d00df cJ4_setLength_d00df 2 none { frames := 2, cells := 0, slots := 0, locals := 43 } [.ref o, .int x1] μ (pV Q) := by
  refine mz_MC (by decide +kernel) (Nat.le_of_ble_eq_true rfl) (fun p e s m args below meth c S hG hr hlk hnm => ?_)
  intro H locs ls hM hS hl
  have hl : lv_has ls 2 [(0, .ref o), (1, .int x1)] := hl
  unfold w_J4_setLength_d00df at h
  refine lv_aload_n S.1 S.2.1 dJ4_setLength_d00df_0 rfl (lv_at hl 0 rfl) ?_
  refine lv_iload_n S.1 S.2.1 dJ4_setLength_d00df_1 rfl (lv_at hl 1 rfl) ?_
  obtain ⟨k1, h⟩ := h
  refine mz_SU S hG hM hS cf_0 k1 (As := [.int x1]) (rest := []) (c_J5_setLength_d00df h) yf_J5_setLength_d00df tw_463 tw_1972 tw_345 tw_464 (by decide) ⟨Nat.le_of_ble_eq_true rfl, Nat.le_of_ble_eq_true rfl⟩ ⟨(Nat.le_of_ble_eq_true rfl), (Nat.le_of_ble_eq_true rfl)⟩ rfl hl.1 rfl (Nat.le_of_ble_eq_true rfl) dJ4_setLength_d00df_2 (fun v9 μ2 H locs hp hM hS => ?_)
  obtain ⟨rfl, h⟩ := hp
  refine W.cs (cells' := 0) (slots' := 0) rfl rfl ?_
  exact mz_vret S hr hlk hM hS (Nat.le_of_ble_eq_true rfl) (Nat.le_of_ble_eq_true rfl) dJ4_setLength_d00df_5 ⟨rfl, h⟩
set_option maxRecDepth 100000 in
set_option maxHeartbeats 4000000 in
theorem c_J6_stringSize_0f7a4 {l : Launch} {G : mgT} {μ : mmT} {x0 : Int32} {Q : Int32 → Prop} (h : w_J6_stringSize_0f7a4 G μ x0 Q) : MC G l yJ6_stringSize_0f7a4 cJ6_stringSize_0f7a4 4 (some .int) { frames := 0, cells := 0, slots := 0, locals := 0 } [.int x0] μ (pI (fun r μ' => μ' = μ ∧ Q r)) := by
  refine mz_MC (by decide +kernel) (Nat.le_of_ble_eq_true rfl) (fun p e s m args below meth c S hG hr hlk hnm => ?_)
  have hB16 : ∀ (n : Nat) (x0 : Int32) (x1 : Int32) (x2 : Int32) (x3 : Int32) (H : Heap) (locs : List Loc) (ls : Array Slot), Mm G μ H → va_S (Ah G) s.heap H locs → lv_has ls 4 [(0, .int x0), (1, .int x1), (2, .int x2), (3, .int x3)] → w_J6_stringSize_0f7a4_l16 G μ Q  n x0 x1 x2 x3 → W p l e { frames := 0, cells := 0, slots := 0, locals := 0 } s m args below meth c H locs 0 0 (MQ below (mQ G (pI (fun r μ' => μ' = μ ∧ Q r))) args s 0 0 (Ah G)) (F0 m 16 ls []) := by
    intro  n
    induction n with
    | zero =>
      intro x0 x1 x2 x3 H locs ls hM hS hl h
      exact False.elim h
    | succ n ih =>
      intro x0 x1 x2 x3 H locs ls hM hS hl h
      have h : w_J6_stringSize_0f7a4_b16 G μ Q  (w_J6_stringSize_0f7a4_l16 G μ Q  n) x0 x1 x2 x3 := h
      unfold w_J6_stringSize_0f7a4_b16 at h
      refine lv_iload_n S.1 S.2.1 dJ6_stringSize_0f7a4_16 rfl (lv_at hl 3 rfl) ?_
      refine lv_bipush (v := (nI 10)) S.1 S.2.1 dJ6_stringSize_0f7a4_17 (by decide) ?_
      refine lv_icmp_ge (tgt := 42) S.1 S.2.1 dJ6_stringSize_0f7a4_19 (by decide) (fun c2 => ?_) (fun c2 => ?_)
      · have h := h.1 c2
        refine lv_bipush (v := (nI 10)) S.1 S.2.1 dJ6_stringSize_0f7a4_42 (by decide) ?_
        refine lv_iload_n S.1 S.2.1 dJ6_stringSize_0f7a4_44 rfl (lv_at hl 1 rfl) ?_
        refine lv_iadd S.1 S.2.1 dJ6_stringSize_0f7a4_45 ?_
        exact mz_iret S hr hlk hM hS rfl (Nat.le_of_ble_eq_true rfl) (Nat.le_of_ble_eq_true rfl) dJ6_stringSize_0f7a4_46 ⟨_, rfl, rfl, h⟩
      · have h := h.2 c2
        refine lv_iload_n S.1 S.2.1 dJ6_stringSize_0f7a4_22 rfl (lv_at hl 0 rfl) ?_
        refine lv_iload_n S.1 S.2.1 dJ6_stringSize_0f7a4_23 rfl (lv_at hl 2 rfl) ?_
        refine lv_icmp_le (tgt := 31) S.1 S.2.1 dJ6_stringSize_0f7a4_24 (by decide) (fun c3 => ?_) (fun c3 => ?_)
        · have h := h.1 c3
          refine lv_bipush (v := (nI 10)) S.1 S.2.1 dJ6_stringSize_0f7a4_31 (by decide) ?_
          refine lv_iload_n S.1 S.2.1 dJ6_stringSize_0f7a4_33 rfl (lv_at hl 2 rfl) ?_
          refine lv_imul S.1 S.2.1 dJ6_stringSize_0f7a4_34 ?_
          refine lv_istore_n (lv' := [(2, .int ((nI 10) * x2)), (0, .int x0), (1, .int x1), (3, .int x3)]) S.1 S.2.1 dJ6_stringSize_0f7a4_35 rfl hl (by decide) rfl (fun ls hl => ?_)
          refine lv_iinc (v := (x3 + nI 1)) (lv' := [(3, .int (x3 + nI 1)), (2, .int ((nI 10) * x2)), (0, .int x0), (1, .int x1)]) S.1 S.2.1 dJ6_stringSize_0f7a4_36 hl (k := 3) rfl rfl (by decide) rfl (fun ls hl => ?_)
          refine lv_goto (tgt := 16) S.1 S.2.1 dJ6_stringSize_0f7a4_39 (by decide) ?_
          exact ih x0 x1 ((nI 10) * x2) (x3 + nI 1) H locs ls hM hS (lv_sub hl [2, 3, 1, 0] rfl) h
        · have h := h.2 c3
          refine lv_iload_n S.1 S.2.1 dJ6_stringSize_0f7a4_27 rfl (lv_at hl 3 rfl) ?_
          refine lv_iload_n S.1 S.2.1 dJ6_stringSize_0f7a4_28 rfl (lv_at hl 1 rfl) ?_
          refine lv_iadd S.1 S.2.1 dJ6_stringSize_0f7a4_29 ?_
          exact mz_iret S hr hlk hM hS rfl (Nat.le_of_ble_eq_true rfl) (Nat.le_of_ble_eq_true rfl) dJ6_stringSize_0f7a4_30 ⟨_, rfl, rfl, h⟩
  have hB11 : ∀ (x0 : Int32) (x1 : Int32) (H : Heap) (locs : List Loc) (ls : Array Slot), Mm G μ H → va_S (Ah G) s.heap H locs → lv_has ls 4 [(0, .int x0), (1, .int x1)] → w_J6_stringSize_0f7a4_b11 G μ Q  x0 x1 → W p l e { frames := 0, cells := 0, slots := 0, locals := 0 } s m args below meth c H locs 0 0 (MQ below (mQ G (pI (fun r μ' => μ' = μ ∧ Q r))) args s 0 0 (Ah G)) (F0 m 11 ls []) := by
    intro  x0 x1 H locs ls hM hS hl h
    unfold w_J6_stringSize_0f7a4_b11 at h
    refine lv_bipush (v := (-10)) S.1 S.2.1 dJ6_stringSize_0f7a4_11 (by decide) ?_
    refine lv_istore_n (lv' := [(2, .int (-10)), (0, .int x0), (1, .int x1)]) S.1 S.2.1 dJ6_stringSize_0f7a4_13 rfl hl (by decide) rfl (fun ls hl => ?_)
    refine lv_iconst (v := (nI 1)) S.1 S.2.1 dJ6_stringSize_0f7a4_14 (by decide) ?_
    refine lv_istore_n (lv' := [(3, .int (nI 1)), (2, .int (-10)), (0, .int x0), (1, .int x1)]) S.1 S.2.1 dJ6_stringSize_0f7a4_15 rfl hl (by decide) rfl (fun ls hl => ?_)
    obtain ⟨n9, h⟩ := h
    exact hB16  n9 x0 x1 (-10) (nI 1) H locs ls hM hS (lv_sub hl [2, 3, 1, 0] rfl) h
  intro H locs ls hM hS hl
  have hl : lv_has ls 4 [(0, .int x0)] := hl
  unfold w_J6_stringSize_0f7a4 at h
  refine lv_iconst (v := (nI 1)) S.1 S.2.1 dJ6_stringSize_0f7a4_0 (by decide) ?_
  refine lv_istore_n (lv' := [(1, .int (nI 1)), (0, .int x0)]) S.1 S.2.1 dJ6_stringSize_0f7a4_1 rfl hl (by decide) rfl (fun ls hl => ?_)
  refine lv_iload_n S.1 S.2.1 dJ6_stringSize_0f7a4_2 rfl (lv_at hl 1 rfl) ?_
  refine lv_if_lt (tgt := 11) S.1 S.2.1 dJ6_stringSize_0f7a4_3 (by decide) (fun c1 => ?_) (fun c1 => ?_)
  · have h := h.1 c1
    exact hB11  x0 (nI 1) H locs ls hM hS (lv_sub hl [1, 0] rfl) h
  · have h := h.2 c1
    refine lv_iconst (v := (nI 0)) S.1 S.2.1 dJ6_stringSize_0f7a4_6 (by decide) ?_
    refine lv_istore_n (lv' := [(1, .int (nI 0)), (0, .int x0)]) S.1 S.2.1 dJ6_stringSize_0f7a4_7 rfl hl (by decide) rfl (fun ls hl => ?_)
    refine lv_iload_n S.1 S.2.1 dJ6_stringSize_0f7a4_8 rfl (lv_at hl 1 rfl) ?_
    refine lv_ineg S.1 S.2.1 dJ6_stringSize_0f7a4_9 ?_
    refine lv_istore_n (lv' := [(0, .int (-x0)), (1, .int (nI 0))]) S.1 S.2.1 dJ6_stringSize_0f7a4_10 rfl hl (by decide) rfl (fun ls hl => ?_)
    exact hB11  (-x0) (nI 0) H locs ls hM hS (lv_sub hl [0, 1] rfl) h
set_option maxRecDepth 100000 in
set_option maxHeartbeats 4000000 in
theorem c_J5_isLatin1_aae02 {l : Launch} {G : mgT} {μ : mmT} {o : Nat} {Q : Int32 → Prop} (h : w_J5_isLatin1_aae02 G μ o Q) : MC G l yJ5_isLatin1_aae02 cJ5_isLatin1_aae02 1 (some .boolean) { frames := 0, cells := 0, slots := 0, locals := 0 } [.ref o] μ (pI (fun r μ' => μ' = μ ∧ Q r)) := by
  refine mz_MC (by decide +kernel) (Nat.le_of_ble_eq_true rfl) (fun p e s m args below meth c S hG hr hlk hnm => ?_)
  intro H locs ls hM hS hl
  have hl : lv_has ls 1 [(0, .ref o)] := hl
  unfold w_J5_isLatin1_aae02 at h
  refine va_gets S.1 S.2.1 (hG.2.2.2.2.2.2.2.2.2.2.1) hS S.2.2.2.1 (S.2.2.2.2 _ tw_323) (fun _ q => q) dJ5_isLatin1_aae02_0 ?_
  obtain ⟨c1, h⟩ := h
  refine lv_if_eq (tgt := 17) S.1 S.2.1 dJ5_isLatin1_aae02_3 (by decide) (fun c => absurd c c1) (fun _ => ?_)
  refine lv_aload_n S.1 S.2.1 dJ5_isLatin1_aae02_6 rfl (lv_at hl 0 rfl) ?_
  obtain ⟨k2, h⟩ := h
  refine mz_geti S hG hM cf_0 fd_1 tw_333 dJ5_isLatin1_aae02_7 k2 ?_
  obtain ⟨c3, h⟩ := h
  refine lv_if_ne (tgt := 17) S.1 S.2.1 dJ5_isLatin1_aae02_10 (by decide) (fun c => absurd c3 c) (fun _ => ?_)
  refine lv_iconst (v := (nI 1)) S.1 S.2.1 dJ5_isLatin1_aae02_13 (by decide) ?_
  refine lv_goto (tgt := 18) S.1 S.2.1 dJ5_isLatin1_aae02_14 (by decide) ?_
  exact mz_iret S hr hlk hM hS rfl (Nat.le_of_ble_eq_true rfl) (Nat.le_of_ble_eq_true rfl) dJ5_isLatin1_aae02_18 ⟨_, rfl, rfl, h⟩
set_option maxRecDepth 100000 in
set_option maxHeartbeats 4000000 in
theorem c_J6_getChars_ba4f3 {l : Launch} {G : mgT} {μ : mmT} {x0 : Int32} {x1 : Int32} {r2 : Option Nat} {Q : Int32 → mmT → Prop} (h : w_J6_getChars_ba4f3 G μ x0 x1 r2 Q) : MC G l yJ6_getChars_ba4f3 cJ6_getChars_ba4f3 7 (some .int) { frames := 0, cells := 0, slots := 0, locals := 0 } [.int x0, .int x1, va_rf r2] μ (pI Q) := by
  refine mz_MC (by decide +kernel) (by simp [lg_sl, mz_cat, mz_cr, mz_ci, mz_cl, mz_cf, mz_cd, mz_cn]) (fun p e s m args below meth c S hG hr hlk hnm => ?_)
  have hB118 : ∀ (x5 : Int32) (μ : mmT) (H : Heap) (locs : List Loc) (ls : Array Slot), Mm G μ H → va_S (Ah G) s.heap H locs → lv_has ls 7 [(5, .int x5)] → w_J6_getChars_ba4f3_b118 G Q  x5 μ → W p l e { frames := 0, cells := 0, slots := 0, locals := 0 } s m args below meth c H locs 0 0 (MQ below (mQ G (pI Q)) args s 0 0 (Ah G)) (F0 m 118 ls []) := by
    intro  x5 μ H locs ls hM hS hl h
    unfold w_J6_getChars_ba4f3_b118 at h
    refine lv_iload S.1 S.2.1 dJ6_getChars_ba4f3_118 (lv_at hl 0 rfl) ?_
    exact mz_iret S hr hlk hM hS rfl (Nat.le_of_ble_eq_true rfl) (Nat.le_of_ble_eq_true rfl) dJ6_getChars_ba4f3_120 ⟨_, rfl, h⟩
  have hB104 : ∀ (r2 : Option Nat) (x5 : Int32) (x6 : Int32) (μ : mmT) (H : Heap) (locs : List Loc) (ls : Array Slot), Mm G μ H → va_S (Ah G) s.heap H locs → lv_has ls 7 [(2, va_rf r2), (5, .int x5), (6, .int x6)] → w_J6_getChars_ba4f3_b104 G Q  r2 x5 x6 μ → W p l e { frames := 0, cells := 0, slots := 0, locals := 0 } s m args below meth c H locs 0 0 (MQ below (mQ G (pI Q)) args s 0 0 (Ah G)) (F0 m 104 ls []) := by
    intro  r2 x5 x6 μ H locs ls hM hS hl h
    unfold w_J6_getChars_ba4f3_b104 at h
    refine lv_iload S.1 S.2.1 dJ6_getChars_ba4f3_104 (lv_at hl 2 rfl) ?_
    refine lv_if_eq (tgt := 118) S.1 S.2.1 dJ6_getChars_ba4f3_106 (by decide) (fun c10 => ?_) (fun c10 => ?_)
    · have h := h.1 c10
      exact hB118  x5 μ H locs ls hM hS (lv_sub hl [1] rfl) h
    · have h := h.2 c10
      refine mz_aload_n (x := r2) S.1 S.2.1 dJ6_getChars_ba4f3_109 rfl (lv_at hl 0 rfl) ?_
      refine lv_iinc (v := (x5 + (-1))) (lv' := [(5, .int (x5 + (-1))), (2, va_rf r2), (6, .int x6)]) S.1 S.2.1 dJ6_getChars_ba4f3_110 hl (k := 1) rfl rfl (by decide) rfl (fun ls hl => ?_)
      refine lv_iload S.1 S.2.1 dJ6_getChars_ba4f3_113 (lv_at hl 0 rfl) ?_
      refine lv_bipush (v := (nI 45)) S.1 S.2.1 dJ6_getChars_ba4f3_115 (by decide) ?_
      obtain ⟨a11, e12, h⟩ := h
      refine mz_o2 e12 ?_
      obtain ⟨k13, h⟩ := h
      obtain ⟨b14, h⟩ := h
      refine mz_bast S hG hM hS dJ6_getChars_ba4f3_117 k13 b14 (fun H locs hM hS hz9 => ?_)
      exact hB118  (x5 + (-1)) (sA μ a11 (x5 + (-1)).toNatClampNeg (vp_nar .byte (nI 45))) H locs ls hM hS (lv_sub hl [0] rfl) h
  have hB22 : ∀ (n : Nat) (x0 : Int32) (r2 : Option Nat) (x5 : Int32) (x6 : Int32) (μ : mmT) (H : Heap) (locs : List Loc) (ls : Array Slot), Mm G μ H → va_S (Ah G) s.heap H locs → lv_has ls 7 [(0, .int x0), (2, va_rf r2), (5, .int x5), (6, .int x6)] → w_J6_getChars_la4f3_l22 G Q  n x0 r2 x5 x6 μ → W p l e { frames := 0, cells := 0, slots := 0, locals := 0 } s m args below meth c H locs 0 0 (MQ below (mQ G (pI Q)) args s 0 0 (Ah G)) (F0 m 22 ls []) := by
    intro  n
    induction n with
    | zero =>
      intro x0 r2 x5 x6 μ H locs ls hM hS hl h
      exact False.elim h
    | succ n ih =>
      intro x0 r2 x5 x6 μ H locs ls hM hS hl h
      have h : w_J6_getChars_ba4f3_b22 G Q  (w_J6_getChars_la4f3_l22 G Q  n) x0 r2 x5 x6 μ := h
      unfold w_J6_getChars_ba4f3_b22 at h
      refine lv_iload_n S.1 S.2.1 dJ6_getChars_ba4f3_22 rfl (lv_at hl 0 rfl) ?_
      refine lv_bipush (v := (-100)) S.1 S.2.1 dJ6_getChars_ba4f3_23 (by decide) ?_
      refine lv_icmp_gt (tgt := 72) S.1 S.2.1 dJ6_getChars_ba4f3_25 (by decide) (fun c3 => ?_) (fun c3 => ?_)
      · have h := h.1 c3
        refine mz_aload_n (x := r2) S.1 S.2.1 dJ6_getChars_ba4f3_72 rfl (lv_at hl 1 rfl) ?_
        refine lv_iinc (v := (x5 + (-1))) (lv' := [(5, .int (x5 + (-1))), (0, .int x0), (2, va_rf r2), (6, .int x6)]) S.1 S.2.1 dJ6_getChars_ba4f3_73 hl (k := 2) rfl rfl (by decide) rfl (fun ls hl => ?_)
        refine lv_iload S.1 S.2.1 dJ6_getChars_ba4f3_76 (lv_at hl 0 rfl) ?_
        refine va_gets S.1 S.2.1 (hG.one.1) hS S.2.2.2.1 (S.2.2.2.2 _ tw_607) (fun _ q => q) dJ6_getChars_ba4f3_78 ?_
        refine lv_iload_n S.1 S.2.1 dJ6_getChars_ba4f3_81 rfl (lv_at hl 1 rfl) ?_
        refine lv_ineg S.1 S.2.1 dJ6_getChars_ba4f3_82 ?_
        obtain ⟨b4, h⟩ := h
        refine va_tb S.1 S.2.1 (hG.one.2) hS b4 rfl dJ6_getChars_ba4f3_83 ?_
        obtain ⟨a5, e6, h⟩ := h
        refine mz_o2 e6 ?_
        obtain ⟨k7, h⟩ := h
        obtain ⟨b8, h⟩ := h
        refine mz_bast S hG hM hS dJ6_getChars_ba4f3_84 k7 b8 (fun H locs hM hS hz9 => ?_)
        refine lv_iload_n S.1 S.2.1 dJ6_getChars_ba4f3_85 rfl (lv_at hl 1 rfl) ?_
        refine lv_bipush (v := (-9)) S.1 S.2.1 dJ6_getChars_ba4f3_86 (by decide) ?_
        refine lv_icmp_ge (tgt := 104) S.1 S.2.1 dJ6_getChars_ba4f3_88 (by decide) (fun c9 => ?_) (fun c9 => ?_)
        · have h := h.1 c9
          exact hB104  r2 (x5 + (-1)) x6 (sA μ a5 (x5 + (-1)).toNatClampNeg (vp_nar .byte (gOne (-x0).toNatClampNeg))) H locs ls hM hS (lv_sub hl [2, 0, 3] rfl) h
        · have h := h.2 c9
          refine mz_aload_n (x := r2) S.1 S.2.1 dJ6_getChars_ba4f3_91 rfl (lv_at hl 2 rfl) ?_
          refine lv_iinc (v := ((x5 + (-1)) + (-1))) (lv' := [(5, .int ((x5 + (-1)) + (-1))), (0, .int x0), (2, va_rf r2), (6, .int x6)]) S.1 S.2.1 dJ6_getChars_ba4f3_92 hl (k := 0) rfl rfl (by decide) rfl (fun ls hl => ?_)
          refine lv_iload S.1 S.2.1 dJ6_getChars_ba4f3_95 (lv_at hl 0 rfl) ?_
          refine va_gets S.1 S.2.1 (hG.ten.1) hS S.2.2.2.1 (S.2.2.2.2 _ tw_609) (fun _ q => q) dJ6_getChars_ba4f3_97 ?_
          refine lv_iload_n S.1 S.2.1 dJ6_getChars_ba4f3_100 rfl (lv_at hl 1 rfl) ?_
          refine lv_ineg S.1 S.2.1 dJ6_getChars_ba4f3_101 ?_
          obtain ⟨b15, h⟩ := h
          refine va_tb S.1 S.2.1 (hG.ten.2) hS b15 rfl dJ6_getChars_ba4f3_102 ?_
          refine mz_o2 e6 ?_
          obtain ⟨b16, h⟩ := h
          refine mz_bast S hG hM hS dJ6_getChars_ba4f3_103 k7 b16 (fun H locs hM hS hz9 => ?_)
          exact hB104  r2 ((x5 + (-1)) + (-1)) x6 (sA (sA μ a5 (x5 + (-1)).toNatClampNeg (vp_nar .byte (gOne (-x0).toNatClampNeg))) a5 ((x5 + (-1)) + (-1)).toNatClampNeg (vp_nar .byte (gTen (-x0).toNatClampNeg))) H locs ls hM hS (lv_sub hl [2, 0, 3] rfl) h
      · have h := h.2 c3
        refine lv_iload_n S.1 S.2.1 dJ6_getChars_ba4f3_28 rfl (lv_at hl 0 rfl) ?_
        refine lv_bipush (v := (nI 100)) S.1 S.2.1 dJ6_getChars_ba4f3_29 (by decide) ?_
        refine lv_idiv S.1 S.2.1 dJ6_getChars_ba4f3_31 (by decide) ?_
        refine lv_istore_n (i := 3) (lv' := [(3, .int (x0 / (nI 100))), (0, .int x0), (2, va_rf r2), (5, .int x5), (6, .int x6)]) S.1 S.2.1 dJ6_getChars_ba4f3_32 rfl hl (by decide) (by simp [List.filter, mz_cat]) (fun ls hl => ?_)
        refine lv_iload_n S.1 S.2.1 dJ6_getChars_ba4f3_33 rfl (lv_at hl 0 rfl) ?_
        refine lv_bipush (v := (nI 100)) S.1 S.2.1 dJ6_getChars_ba4f3_34 (by decide) ?_
        refine lv_imul S.1 S.2.1 dJ6_getChars_ba4f3_36 ?_
        refine lv_iload_n S.1 S.2.1 dJ6_getChars_ba4f3_37 rfl (lv_at hl 1 rfl) ?_
        refine lv_isub S.1 S.2.1 dJ6_getChars_ba4f3_38 ?_
        refine lv_istore (lv' := [(4, .int (((x0 / (nI 100)) * (nI 100)) - x0)), (3, .int (x0 / (nI 100))), (0, .int x0), (2, va_rf r2), (5, .int x5), (6, .int x6)]) S.1 S.2.1 dJ6_getChars_ba4f3_39 hl (by decide) rfl (fun ls hl => ?_)
        refine lv_iload_n S.1 S.2.1 dJ6_getChars_ba4f3_41 rfl (lv_at hl 1 rfl) ?_
        refine lv_istore_n (lv' := [(0, .int (x0 / (nI 100))), (4, .int (((x0 / (nI 100)) * (nI 100)) - x0)), (3, .int (x0 / (nI 100))), (2, va_rf r2), (5, .int x5), (6, .int x6)]) S.1 S.2.1 dJ6_getChars_ba4f3_42 rfl hl (by decide) rfl (fun ls hl => ?_)
        refine mz_aload_n (x := r2) S.1 S.2.1 dJ6_getChars_ba4f3_43 rfl (lv_at hl 3 rfl) ?_
        refine lv_iinc (v := (x5 + (-1))) (lv' := [(5, .int (x5 + (-1))), (0, .int (x0 / (nI 100))), (4, .int (((x0 / (nI 100)) * (nI 100)) - x0)), (3, .int (x0 / (nI 100))), (2, va_rf r2), (6, .int x6)]) S.1 S.2.1 dJ6_getChars_ba4f3_44 hl (k := 4) rfl rfl (by decide) rfl (fun ls hl => ?_)
        refine lv_iload S.1 S.2.1 dJ6_getChars_ba4f3_47 (lv_at hl 0 rfl) ?_
        refine va_gets S.1 S.2.1 (hG.one.1) hS S.2.2.2.1 (S.2.2.2.2 _ tw_607) (fun _ q => q) dJ6_getChars_ba4f3_49 ?_
        refine lv_iload S.1 S.2.1 dJ6_getChars_ba4f3_52 (lv_at hl 2 rfl) ?_
        obtain ⟨b18, h⟩ := h
        refine va_tb S.1 S.2.1 (hG.one.2) hS b18 rfl dJ6_getChars_ba4f3_54 ?_
        obtain ⟨a19, e20, h⟩ := h
        refine mz_o2 e20 ?_
        obtain ⟨k21, h⟩ := h
        obtain ⟨b22, h⟩ := h
        refine mz_bast S hG hM hS dJ6_getChars_ba4f3_55 k21 b22 (fun H locs hM hS hz9 => ?_)
        refine mz_aload_n (x := r2) S.1 S.2.1 dJ6_getChars_ba4f3_56 rfl (lv_at hl 4 rfl) ?_
        refine lv_iinc (v := ((x5 + (-1)) + (-1))) (lv' := [(5, .int ((x5 + (-1)) + (-1))), (0, .int (x0 / (nI 100))), (4, .int (((x0 / (nI 100)) * (nI 100)) - x0)), (3, .int (x0 / (nI 100))), (2, va_rf r2), (6, .int x6)]) S.1 S.2.1 dJ6_getChars_ba4f3_57 hl (k := 0) rfl rfl (by decide) rfl (fun ls hl => ?_)
        refine lv_iload S.1 S.2.1 dJ6_getChars_ba4f3_60 (lv_at hl 0 rfl) ?_
        refine va_gets S.1 S.2.1 (hG.ten.1) hS S.2.2.2.1 (S.2.2.2.2 _ tw_609) (fun _ q => q) dJ6_getChars_ba4f3_62 ?_
        refine lv_iload S.1 S.2.1 dJ6_getChars_ba4f3_65 (lv_at hl 2 rfl) ?_
        obtain ⟨b23, h⟩ := h
        refine va_tb S.1 S.2.1 (hG.ten.2) hS b23 rfl dJ6_getChars_ba4f3_67 ?_
        refine mz_o2 e20 ?_
        obtain ⟨b24, h⟩ := h
        refine mz_bast S hG hM hS dJ6_getChars_ba4f3_68 k21 b24 (fun H locs hM hS hz9 => ?_)
        refine lv_goto (tgt := 22) S.1 S.2.1 dJ6_getChars_ba4f3_69 (by decide) ?_
        exact ih (x0 / (nI 100)) r2 ((x5 + (-1)) + (-1)) x6 (sA (sA μ a19 (x5 + (-1)).toNatClampNeg (vp_nar .byte (gOne (((x0 / (nI 100)) * (nI 100)) - x0).toNatClampNeg))) a19 ((x5 + (-1)) + (-1)).toNatClampNeg (vp_nar .byte (gTen (((x0 / (nI 100)) * (nI 100)) - x0).toNatClampNeg))) H locs ls hM hS (lv_sub hl [1, 4, 0, 5] rfl) h
  have hB12 : ∀ (x0 : Int32) (r2 : Option Nat) (x5 : Int32) (s0 : Int32) (μ : mmT) (H : Heap) (locs : List Loc) (ls : Array Slot), Mm G μ H → va_S (Ah G) s.heap H locs → lv_has ls 7 [(0, .int x0), (2, va_rf r2), (5, .int x5)] → w_J6_getChars_ba4f3_b12 G Q  x0 r2 x5 s0 μ → W p l e { frames := 0, cells := 0, slots := 0, locals := 0 } s m args below meth c H locs 0 0 (MQ below (mQ G (pI Q)) args s 0 0 (Ah G)) (F0 m 12 ls [.int s0]) := by
    intro  x0 r2 x5 s0 μ H locs ls hM hS hl h
    unfold w_J6_getChars_ba4f3_b12 at h
    refine lv_istore (lv' := [(6, .int s0), (0, .int x0), (2, va_rf r2), (5, .int x5)]) S.1 S.2.1 dJ6_getChars_ba4f3_12 hl (by decide) rfl (fun ls hl => ?_)
    refine lv_iload S.1 S.2.1 dJ6_getChars_ba4f3_14 (lv_at hl 0 rfl) ?_
    refine lv_if_ne (tgt := 22) S.1 S.2.1 dJ6_getChars_ba4f3_16 (by decide) (fun c2 => ?_) (fun c2 => ?_)
    · have h := h.1 c2
      obtain ⟨n9, h⟩ := h
      exact hB22  n9 x0 r2 x5 s0 μ H locs ls hM hS (lv_sub hl [1, 2, 3, 0] rfl) h
    · have h := h.2 c2
      refine lv_iload_n S.1 S.2.1 dJ6_getChars_ba4f3_19 rfl (lv_at hl 1 rfl) ?_
      refine lv_ineg S.1 S.2.1 dJ6_getChars_ba4f3_20 ?_
      refine lv_istore_n (lv' := [(0, .int (-x0)), (6, .int s0), (2, va_rf r2), (5, .int x5)]) S.1 S.2.1 dJ6_getChars_ba4f3_21 rfl hl (by decide) rfl (fun ls hl => ?_)
      obtain ⟨n9, h⟩ := h
      exact hB22  n9 (-x0) r2 x5 s0 μ H locs ls hM hS (lv_sub hl [0, 2, 3, 1] rfl) h
  intro H locs ls hM hS hl
  have hl : lv_has ls 7 [(0, .int x0), (1, .int x1), (2, va_rf r2)] := by simpa [lv_args, mz_cat, mz_cr, mz_ci, mz_cl, mz_cf, mz_cd, mz_cn] using hl
  unfold w_J6_getChars_ba4f3 at h
  refine lv_iload_n S.1 S.2.1 dJ6_getChars_ba4f3_0 rfl (lv_at hl 1 rfl) ?_
  refine lv_istore (lv' := [(5, .int x1), (0, .int x0), (1, .int x1), (2, va_rf r2)]) S.1 S.2.1 dJ6_getChars_ba4f3_1 hl (by decide) rfl (fun ls hl => ?_)
  refine lv_iload_n S.1 S.2.1 dJ6_getChars_ba4f3_3 rfl (lv_at hl 1 rfl) ?_
  refine lv_if_ge (tgt := 11) S.1 S.2.1 dJ6_getChars_ba4f3_4 (by decide) (fun c1 => ?_) (fun c1 => ?_)
  · have h := h.1 c1
    refine lv_iconst (v := (nI 0)) S.1 S.2.1 dJ6_getChars_ba4f3_11 (by decide) ?_
    exact hB12  x0 r2 x1 (nI 0) μ H locs ls hM hS (lv_sub hl [1, 3, 0] rfl) h
  · have h := h.2 c1
    refine lv_iconst (v := (nI 1)) S.1 S.2.1 dJ6_getChars_ba4f3_7 (by decide) ?_
    refine lv_goto (tgt := 12) S.1 S.2.1 dJ6_getChars_ba4f3_8 (by decide) ?_
    exact hB12  x0 r2 x1 (nI 1) μ H locs ls hM hS (lv_sub hl [1, 3, 0] rfl) h
set_option maxRecDepth 100000 in
set_option maxHeartbeats 4000000 in
theorem c_J5_append_c97b9 {l : Launch} {G : mgT} {μ : mmT} {o : Nat} {x1 : Int32} {Q : Option Nat → mmT → Prop} (h : w_J5_append_c97b9 G μ o x1 Q) : MC G l yJ5_append_c97b9 cJ5_append_c97b9 4 (some (.object "java/lang/AbstractStringBuilder")) { frames := 1, cells := 0, slots := 0, locals := 26 } [.ref o, .int x1] μ (pR Q) := by
  refine mz_MC (by decide +kernel) (Nat.le_of_ble_eq_true rfl) (fun p e s m args below meth c S hG hr hlk hnm => ?_)
  intro H locs ls hM hS hl
  have hl : lv_has ls 4 [(0, .ref o), (1, .int x1)] := hl
  unfold w_J5_append_c97b9 at h
  refine lv_aload_n S.1 S.2.1 dJ5_append_c97b9_0 rfl (lv_at hl 0 rfl) ?_
  obtain ⟨k1, h⟩ := h
  refine mz_geti S hG hM cf_0 fd_3 tw_336 dJ5_append_c97b9_1 k1 ?_
  refine lv_istore_n (lv' := [(2, .int (mI μ 3 o)), (0, .ref o), (1, .int x1)]) S.1 S.2.1 dJ5_append_c97b9_4 rfl hl (by decide) rfl (fun ls hl => ?_)
  refine lv_iload_n S.1 S.2.1 dJ5_append_c97b9_5 rfl (lv_at hl 0 rfl) ?_
  refine lv_iload_n S.1 S.2.1 dJ5_append_c97b9_6 rfl (lv_at hl 2 rfl) ?_
  refine mz_S S hG hM hS (As := [.int x1]) (rest := [.int (mI μ 3 o)]) (c_J6_stringSize_0f7a4 h) yf_J6_stringSize_0f7a4 tw_601 tw_602 ⟨Nat.le_of_ble_eq_true rfl, Nat.le_of_ble_eq_true rfl⟩ ⟨(Nat.le_of_ble_eq_true rfl), (Nat.le_of_ble_eq_true rfl)⟩ rfl hl.1 rfl (Nat.le_of_ble_eq_true rfl) dJ5_append_c97b9_7 (fun v9 μ9 H locs hp hM hS => ?_)
  obtain ⟨u2, rfl, e9, h⟩ := hp
  rw [e9] at hM
  refine W.cs (cells' := 0) (slots' := 0) rfl rfl ?_
  refine lv_iadd S.1 S.2.1 dJ5_append_c97b9_10 ?_
  refine lv_istore_n (lv' := [(3, .int ((mI μ 3 o) + u2)), (2, .int (mI μ 3 o)), (0, .ref o), (1, .int x1)]) S.1 S.2.1 dJ5_append_c97b9_11 rfl hl (by decide) rfl (fun ls hl => ?_)
  refine lv_aload_n S.1 S.2.1 dJ5_append_c97b9_12 rfl (lv_at hl 2 rfl) ?_
  refine lv_iload_n S.1 S.2.1 dJ5_append_c97b9_13 rfl (lv_at hl 0 rfl) ?_
  refine mz_V0 S hG hM hS (mz_recv hG hM cf_0 k1) (As := [.int ((mI μ 3 o) + u2)]) (rest := []) (c_J5_ensureCapacityInternal_d00df h) yf_J5_ensureCapacityInternal_d00df tw_485 tw_487 (S.2.2.2.2 _ TT_x) ⟨Nat.le_of_ble_eq_true rfl, Nat.le_of_ble_eq_true rfl⟩ ⟨(Nat.le_of_ble_eq_true rfl), (Nat.le_of_ble_eq_true rfl)⟩ rfl hl.1 rfl (Nat.le_of_ble_eq_true rfl) dJ5_append_c97b9_14 (fun v9 μ9 H locs hp hM hS => ?_)
  obtain ⟨rfl, e9, h⟩ := hp
  rw [e9] at hM
  refine W.cs (cells' := 0) (slots' := 0) rfl rfl ?_
  refine lv_aload_n S.1 S.2.1 dJ5_append_c97b9_17 rfl (lv_at hl 2 rfl) ?_
  refine mz_V S hG hM hS cf_0 k1 (As := []) (rest := []) (c_J5_isLatin1_aae02 h) yf_J5_isLatin1_aae02 tw_520 tw_521 tw_523 ⟨Nat.le_of_ble_eq_true rfl, Nat.le_of_ble_eq_true rfl⟩ ⟨(Nat.le_of_ble_eq_true rfl), (Nat.le_of_ble_eq_true rfl)⟩ rfl hl.1 rfl (Nat.le_of_ble_eq_true rfl) dJ5_append_c97b9_18 (fun v9 μ9 H locs hp hM hS => ?_)
  obtain ⟨u3, rfl, e9, h⟩ := hp
  rw [e9] at hM
  refine W.cs (cells' := 0) (slots' := 0) rfl rfl ?_
  obtain ⟨c4, h⟩ := h
  refine lv_if_eq (tgt := 37) S.1 S.2.1 dJ5_append_c97b9_21 (by decide) (fun c => absurd c c4) (fun _ => ?_)
  refine lv_iload_n S.1 S.2.1 dJ5_append_c97b9_24 rfl (lv_at hl 3 rfl) ?_
  refine lv_iload_n S.1 S.2.1 dJ5_append_c97b9_25 rfl (lv_at hl 0 rfl) ?_
  refine lv_aload_n S.1 S.2.1 dJ5_append_c97b9_26 rfl (lv_at hl 2 rfl) ?_
  refine mz_getr S hG hM cf_0 fd_0 tw_332 dJ5_append_c97b9_27 k1 ?_
  refine mz_S S hG hM hS (As := [.int x1, .int ((mI μ 3 o) + u2), va_rf (mR μ 0 o)]) (rest := []) (c_J6_getChars_ba4f3 h) yf_J6_getChars_ba4f3 tw_604 tw_605 ⟨Nat.le_of_ble_eq_true rfl, Nat.le_of_ble_eq_true rfl⟩ ⟨(Nat.le_of_ble_eq_true rfl), (Nat.le_of_ble_eq_true rfl)⟩ rfl hl.1 rfl (Nat.le_of_ble_eq_true rfl) dJ5_append_c97b9_30 (fun v9 μ6 H locs hp hM hS => ?_)
  obtain ⟨u5, rfl, h⟩ := hp
  refine W.cs (cells' := 0) (slots' := 0) rfl rfl ?_
  refine lv_pop S.1 S.2.1 dJ5_append_c97b9_33 rfl ?_
  refine lv_goto (tgt := 48) S.1 S.2.1 dJ5_append_c97b9_34 (by decide) ?_
  refine lv_aload_n S.1 S.2.1 dJ5_append_c97b9_48 rfl (lv_at hl 2 rfl) ?_
  refine lv_iload_n S.1 S.2.1 dJ5_append_c97b9_49 rfl (lv_at hl 0 rfl) ?_
  obtain ⟨k7, h⟩ := h
  refine mz_puti S hG hM hS cf_0 fd_3 tw_336 dJ5_append_c97b9_50 k7 rfl rfl (fun H locs hM hS hz9 => ?_)
  refine lv_aload_n S.1 S.2.1 dJ5_append_c97b9_53 rfl (lv_at hl 2 rfl) ?_
  exact mz_aret (x := (some o)) S hr (by first | exact Or.inl ⟨_, rfl⟩ | exact Or.inr ⟨_, rfl⟩) hlk hM hS (Nat.le_of_ble_eq_true rfl) (Nat.le_of_ble_eq_true rfl) dJ5_append_c97b9_54 ⟨_, rfl, h⟩
set_option maxRecDepth 100000 in
set_option maxHeartbeats 4000000 in
theorem c_J4_append_bf812 {l : Launch} {G : mgT} {μ : mmT} {o : Nat} {x1 : Int32} {Q : Option Nat → mmT → Prop} (h : w_J4_append_bf812 G μ o x1 Q) : MC G l yJ4_append_bf812 cJ4_append_bf812 2 (some (.object "java/lang/StringBuilder")) { frames := 2, cells := 0, slots := 0, locals := 49 } [.ref o, .int x1] μ (pR Q) := by
  refine mz_MC (by decide +kernel) (Nat.le_of_ble_eq_true rfl) (fun p e s m args below meth c S hG hr hlk hnm => ?_)
  intro H locs ls hM hS hl
  have hl : lv_has ls 2 [(0, .ref o), (1, .int x1)] := hl
  unfold w_J4_append_bf812 at h
  refine lv_aload_n S.1 S.2.1 dJ4_append_bf812_0 rfl (lv_at hl 0 rfl) ?_
  refine lv_iload_n S.1 S.2.1 dJ4_append_bf812_1 rfl (lv_at hl 1 rfl) ?_
  obtain ⟨k1, h⟩ := h
  refine mz_SU S hG hM hS cf_0 k1 (As := [.int x1]) (rest := []) (c_J5_append_c97b9 h) yf_J5_append_c97b9 tw_598 tw_1980 tw_345 tw_599 (by decide) ⟨Nat.le_of_ble_eq_true rfl, Nat.le_of_ble_eq_true rfl⟩ ⟨(Nat.le_of_ble_eq_true rfl), (Nat.le_of_ble_eq_true rfl)⟩ rfl hl.1 rfl (Nat.le_of_ble_eq_true rfl) dJ4_append_bf812_2 (fun v9 μ3 H locs hp hM hS => ?_)
  obtain ⟨ru2, rfl, h⟩ := hp
  refine W.cs (cells' := 0) (slots' := 0) rfl rfl ?_
  refine lv_pop S.1 S.2.1 dJ4_append_bf812_5 (mz_cat _) ?_
  refine lv_aload_n S.1 S.2.1 dJ4_append_bf812_6 rfl (lv_at hl 0 rfl) ?_
  exact mz_aret (x := (some o)) S hr (by first | exact Or.inl ⟨_, rfl⟩ | exact Or.inr ⟨_, rfl⟩) hlk hM hS (Nat.le_of_ble_eq_true rfl) (Nat.le_of_ble_eq_true rfl) dJ4_append_bf812_7 ⟨_, rfl, h⟩
set_option maxRecDepth 100000 in
set_option maxHeartbeats 4000000 in
theorem c_J1_canEncode_fc78d {l : Launch} {G : mgT} {μ : mmT} {x0 : Int32} {Q : Int32 → Prop} (h : w_J1_canEncode_fc78d G μ x0 Q) : MC G l yJ1_canEncode_fc78d cJ1_canEncode_fc78d 1 (some .boolean) { frames := 0, cells := 0, slots := 0, locals := 0 } [.int x0] μ (pI (fun r μ' => μ' = μ ∧ Q r)) := by
  refine mz_MC (by decide +kernel) (Nat.le_of_ble_eq_true rfl) (fun p e s m args below meth c S hG hr hlk hnm => ?_)
  have hB12 : ∀ (s0 : Int32) (H : Heap) (locs : List Loc) (ls : Array Slot), Mm G μ H → va_S (Ah G) s.heap H locs → lv_has ls 1 [] → w_J1_canEncode_fc78d_b12 G μ Q  s0 → W p l e { frames := 0, cells := 0, slots := 0, locals := 0 } s m args below meth c H locs 0 0 (MQ below (mQ G (pI (fun r μ' => μ' = μ ∧ Q r))) args s 0 0 (Ah G)) (F0 m 12 ls [.int s0]) := by
    intro  s0 H locs ls hM hS hl h
    unfold w_J1_canEncode_fc78d_b12 at h
    obtain ⟨f2, h⟩ := h
    exact mz_iret S hr hlk hM hS (mz_nZ f2) (Nat.le_of_ble_eq_true rfl) (Nat.le_of_ble_eq_true rfl) dJ1_canEncode_fc78d_12 ⟨_, rfl, rfl, h⟩
  intro H locs ls hM hS hl
  have hl : lv_has ls 1 [(0, .int x0)] := hl
  unfold w_J1_canEncode_fc78d at h
  refine lv_iload_n S.1 S.2.1 dJ1_canEncode_fc78d_0 rfl (lv_at hl 0 rfl) ?_
  refine lv_sipush (v := (nI 255)) S.1 S.2.1 dJ1_canEncode_fc78d_1 (by decide) ?_
  refine lv_icmp_gt (tgt := 11) S.1 S.2.1 dJ1_canEncode_fc78d_4 (by decide) (fun c1 => ?_) (fun c1 => ?_)
  · have h := h.1 c1
    refine lv_iconst (v := (nI 0)) S.1 S.2.1 dJ1_canEncode_fc78d_11 (by decide) ?_
    exact hB12  (nI 0) H locs ls hM hS (lv_sub hl [] rfl) h
  · have h := h.2 c1
    refine lv_iconst (v := (nI 1)) S.1 S.2.1 dJ1_canEncode_fc78d_7 (by decide) ?_
    refine lv_goto (tgt := 12) S.1 S.2.1 dJ1_canEncode_fc78d_8 (by decide) ?_
    exact hB12  (nI 1) H locs ls hM hS (lv_sub hl [] rfl) h
set_option maxRecDepth 100000 in
set_option maxHeartbeats 4000000 in
theorem c_J5_append_3fe6f {l : Launch} {G : mgT} {μ : mmT} {o : Nat} {x1 : Int32} {Q : Option Nat → mmT → Prop} (h : w_J5_append_3fe6f G μ o x1 Q) : MC G l yJ5_append_3fe6f cJ5_append_3fe6f 2 (some (.object "java/lang/AbstractStringBuilder")) { frames := 1, cells := 0, slots := 0, locals := 22 } [.ref o, .int x1] μ (pR Q) := by
  refine mz_MC (by decide +kernel) (Nat.le_of_ble_eq_true rfl) (fun p e s m args below meth c S hG hr hlk hnm => ?_)
  intro H locs ls hM hS hl
  have hl : lv_has ls 2 [(0, .ref o), (1, .int x1)] := hl
  unfold w_J5_append_3fe6f at h
  refine lv_aload_n S.1 S.2.1 dJ5_append_3fe6f_0 rfl (lv_at hl 0 rfl) ?_
  refine lv_aload_n S.1 S.2.1 dJ5_append_3fe6f_1 rfl (lv_at hl 0 rfl) ?_
  obtain ⟨k1, h⟩ := h
  refine mz_geti S hG hM cf_0 fd_3 tw_336 dJ5_append_3fe6f_2 k1 ?_
  refine lv_iconst (v := (nI 1)) S.1 S.2.1 dJ5_append_3fe6f_5 (by decide) ?_
  refine lv_iadd S.1 S.2.1 dJ5_append_3fe6f_6 ?_
  refine mz_V0 S hG hM hS (mz_recv hG hM cf_0 k1) (As := [.int ((mI μ 3 o) + (nI 1))]) (rest := []) (c_J5_ensureCapacityInternal_d00df h) yf_J5_ensureCapacityInternal_d00df tw_485 tw_487 (S.2.2.2.2 _ TT_x) ⟨Nat.le_of_ble_eq_true rfl, Nat.le_of_ble_eq_true rfl⟩ ⟨(Nat.le_of_ble_eq_true rfl), (Nat.le_of_ble_eq_true rfl)⟩ rfl hl.1 rfl (Nat.le_of_ble_eq_true rfl) dJ5_append_3fe6f_7 (fun v9 μ9 H locs hp hM hS => ?_)
  obtain ⟨rfl, e9, h⟩ := hp
  rw [e9] at hM
  refine W.cs (cells' := 0) (slots' := 0) rfl rfl ?_
  refine lv_aload_n S.1 S.2.1 dJ5_append_3fe6f_10 rfl (lv_at hl 0 rfl) ?_
  refine mz_V S hG hM hS cf_0 k1 (As := []) (rest := []) (c_J5_isLatin1_aae02 h) yf_J5_isLatin1_aae02 tw_520 tw_521 tw_523 ⟨Nat.le_of_ble_eq_true rfl, Nat.le_of_ble_eq_true rfl⟩ ⟨(Nat.le_of_ble_eq_true rfl), (Nat.le_of_ble_eq_true rfl)⟩ rfl hl.1 rfl (Nat.le_of_ble_eq_true rfl) dJ5_append_3fe6f_11 (fun v9 μ9 H locs hp hM hS => ?_)
  obtain ⟨u2, rfl, e9, h⟩ := hp
  rw [e9] at hM
  refine W.cs (cells' := 0) (slots' := 0) rfl rfl ?_
  obtain ⟨c3, h⟩ := h
  refine lv_if_eq (tgt := 45) S.1 S.2.1 dJ5_append_3fe6f_14 (by decide) (fun c => absurd c c3) (fun _ => ?_)
  refine lv_iload_n S.1 S.2.1 dJ5_append_3fe6f_17 rfl (lv_at hl 1 rfl) ?_
  refine mz_S S hG hM hS (As := [.int x1]) (rest := []) (c_J1_canEncode_fc78d h) yf_J1_canEncode_fc78d tw_813 tw_814 ⟨Nat.le_of_ble_eq_true rfl, Nat.le_of_ble_eq_true rfl⟩ ⟨(Nat.le_of_ble_eq_true rfl), (Nat.le_of_ble_eq_true rfl)⟩ rfl hl.1 rfl (Nat.le_of_ble_eq_true rfl) dJ5_append_3fe6f_18 (fun v9 μ9 H locs hp hM hS => ?_)
  obtain ⟨u4, rfl, e9, h⟩ := hp
  rw [e9] at hM
  refine W.cs (cells' := 0) (slots' := 0) rfl rfl ?_
  obtain ⟨c5, h⟩ := h
  refine lv_if_eq (tgt := 45) S.1 S.2.1 dJ5_append_3fe6f_21 (by decide) (fun c => absurd c c5) (fun _ => ?_)
  refine lv_aload_n S.1 S.2.1 dJ5_append_3fe6f_24 rfl (lv_at hl 0 rfl) ?_
  refine mz_getr S hG hM cf_0 fd_0 tw_332 dJ5_append_3fe6f_25 k1 ?_
  refine lv_aload_n S.1 S.2.1 dJ5_append_3fe6f_28 rfl (lv_at hl 0 rfl) ?_
  refine lv_dup S.1 S.2.1 dJ5_append_3fe6f_29 rfl ?_
  refine mz_geti S hG hM cf_0 fd_3 tw_336 dJ5_append_3fe6f_30 k1 ?_
  refine lv_dup_x1 S.1 S.2.1 dJ5_append_3fe6f_33 rfl rfl ?_
  refine lv_iconst (v := (nI 1)) S.1 S.2.1 dJ5_append_3fe6f_34 (by decide) ?_
  refine lv_iadd S.1 S.2.1 dJ5_append_3fe6f_35 ?_
  refine mz_puti S hG hM hS cf_0 fd_3 tw_336 dJ5_append_3fe6f_36 k1 rfl rfl (fun H locs hM hS hz9 => ?_)
  refine lv_iload_n S.1 S.2.1 dJ5_append_3fe6f_39 rfl (lv_at hl 1 rfl) ?_
  refine lv_i2b S.1 S.2.1 dJ5_append_3fe6f_40 rfl ?_
  obtain ⟨a6, e7, h⟩ := h
  refine mz_o2 e7 ?_
  obtain ⟨k8, h⟩ := h
  obtain ⟨b9, h⟩ := h
  refine mz_bast S hG hM hS dJ5_append_3fe6f_41 k8 b9 (fun H locs hM hS hz9 => ?_)
  refine lv_goto (tgt := 75) S.1 S.2.1 dJ5_append_3fe6f_42 (by decide) ?_
  refine lv_aload_n S.1 S.2.1 dJ5_append_3fe6f_75 rfl (lv_at hl 0 rfl) ?_
  exact mz_aret (x := (some o)) S hr (by first | exact Or.inl ⟨_, rfl⟩ | exact Or.inr ⟨_, rfl⟩) hlk hM hS (Nat.le_of_ble_eq_true rfl) (Nat.le_of_ble_eq_true rfl) dJ5_append_3fe6f_76 ⟨_, rfl, h⟩
set_option maxRecDepth 100000 in
set_option maxHeartbeats 4000000 in
theorem c_J4_append_cf468 {l : Launch} {G : mgT} {μ : mmT} {o : Nat} {x1 : Int32} {Q : Option Nat → mmT → Prop} (h : w_J4_append_cf468 G μ o x1 Q) : MC G l yJ4_append_cf468 cJ4_append_cf468 2 (some (.object "java/lang/StringBuilder")) { frames := 2, cells := 0, slots := 0, locals := 43 } [.ref o, .int x1] μ (pR Q) := by
  refine mz_MC (by decide +kernel) (Nat.le_of_ble_eq_true rfl) (fun p e s m args below meth c S hG hr hlk hnm => ?_)
  intro H locs ls hM hS hl
  have hl : lv_has ls 2 [(0, .ref o), (1, .int x1)] := hl
  unfold w_J4_append_cf468 at h
  refine lv_aload_n S.1 S.2.1 dJ4_append_cf468_0 rfl (lv_at hl 0 rfl) ?_
  refine lv_iload_n S.1 S.2.1 dJ4_append_cf468_1 rfl (lv_at hl 1 rfl) ?_
  obtain ⟨k1, h⟩ := h
  refine mz_SU S hG hM hS cf_0 k1 (As := [.int x1]) (rest := []) (c_J5_append_3fe6f h) yf_J5_append_3fe6f tw_810 tw_1982 tw_345 tw_811 (by decide) ⟨Nat.le_of_ble_eq_true rfl, Nat.le_of_ble_eq_true rfl⟩ ⟨(Nat.le_of_ble_eq_true rfl), (Nat.le_of_ble_eq_true rfl)⟩ rfl hl.1 rfl (Nat.le_of_ble_eq_true rfl) dJ4_append_cf468_2 (fun v9 μ3 H locs hp hM hS => ?_)
  obtain ⟨ru2, rfl, h⟩ := hp
  refine W.cs (cells' := 0) (slots' := 0) rfl rfl ?_
  refine lv_pop S.1 S.2.1 dJ4_append_cf468_5 (mz_cat _) ?_
  refine lv_aload_n S.1 S.2.1 dJ4_append_cf468_6 rfl (lv_at hl 0 rfl) ?_
  exact mz_aret (x := (some o)) S hr (by first | exact Or.inl ⟨_, rfl⟩ | exact Or.inr ⟨_, rfl⟩) hlk hM hS (Nat.le_of_ble_eq_true rfl) (Nat.le_of_ble_eq_true rfl) dJ4_append_cf468_7 ⟨_, rfl, h⟩
set_option maxRecDepth 100000 in
set_option maxHeartbeats 4000000 in
theorem c_J5_length_8abf5 {l : Launch} {G : mgT} {μ : mmT} {o : Nat} {Q : Int32 → Prop} (h : w_J5_length_8abf5 G μ o Q) : MC G l yJ5_length_8abf5 cJ5_length_8abf5 1 (some .int) { frames := 0, cells := 0, slots := 0, locals := 0 } [.ref o] μ (pI (fun r μ' => μ' = μ ∧ Q r)) := by
  refine mz_MC (by decide +kernel) (Nat.le_of_ble_eq_true rfl) (fun p e s m args below meth c S hG hr hlk hnm => ?_)
  intro H locs ls hM hS hl
  have hl : lv_has ls 1 [(0, .ref o)] := hl
  unfold w_J5_length_8abf5 at h
  refine lv_aload_n S.1 S.2.1 dJ5_length_8abf5_0 rfl (lv_at hl 0 rfl) ?_
  obtain ⟨k1, h⟩ := h
  refine mz_geti S hG hM cf_0 fd_3 tw_336 dJ5_length_8abf5_1 k1 ?_
  exact mz_iret S hr hlk hM hS rfl (Nat.le_of_ble_eq_true rfl) (Nat.le_of_ble_eq_true rfl) dJ5_length_8abf5_4 ⟨_, rfl, rfl, h⟩
set_option maxRecDepth 100000 in
set_option maxHeartbeats 4000000 in
theorem c_J4_length_8abf5 {l : Launch} {G : mgT} {μ : mmT} {o : Nat} {Q : Int32 → Prop} (h : w_J4_length_8abf5 G μ o Q) : MC G l yJ4_length_8abf5 cJ4_length_8abf5 1 (some .int) { frames := 1, cells := 0, slots := 0, locals := 20 } [.ref o] μ (pI (fun r μ' => μ' = μ ∧ Q r)) := by
  refine mz_MC (by decide +kernel) (Nat.le_of_ble_eq_true rfl) (fun p e s m args below meth c S hG hr hlk hnm => ?_)
  intro H locs ls hM hS hl
  have hl : lv_has ls 1 [(0, .ref o)] := hl
  unfold w_J4_length_8abf5 at h
  refine lv_aload_n S.1 S.2.1 dJ4_length_8abf5_0 rfl (lv_at hl 0 rfl) ?_
  obtain ⟨k1, h⟩ := h
  refine mz_SU S hG hM hS cf_0 k1 (As := []) (rest := []) (c_J5_length_8abf5 h) yf_J5_length_8abf5 tw_643 tw_639 tw_345 tw_638 (by decide) ⟨Nat.le_of_ble_eq_true rfl, Nat.le_of_ble_eq_true rfl⟩ ⟨(Nat.le_of_ble_eq_true rfl), (Nat.le_of_ble_eq_true rfl)⟩ rfl hl.1 rfl (Nat.le_of_ble_eq_true rfl) dJ4_length_8abf5_1 (fun v9 μ9 H locs hp hM hS => ?_)
  obtain ⟨u2, rfl, e9, h⟩ := hp
  rw [e9] at hM
  refine W.cs (cells' := 0) (slots' := 0) rfl rfl ?_
  exact mz_iret S hr hlk hM hS rfl (Nat.le_of_ble_eq_true rfl) (Nat.le_of_ble_eq_true rfl) dJ4_length_8abf5_4 ⟨_, rfl, rfl, h⟩
set_option maxRecDepth 100000 in
set_option maxHeartbeats 4000000 in
theorem c_X10_renderMessage {l : Launch} {G : mgT} {μ : mmT} {o : Nat} {x1 : Int32} {Q : Int32 → mmT → Prop} {X : String → mmT → Prop} (hl0 : l.stackTraces = false) (h : w_X10_renderMessage G μ o x1 Q X) : MX G l yX10_renderMessage cX10_renderMessage 3 (some .int) { frames := 7, cells := 1, slots := 6, locals := 122 } [.ref o, .int x1] μ (pI Q) X := by
  refine mz_MX (by decide +kernel) (Nat.le_of_ble_eq_true rfl) (fun p e s m args below meth c S hG hr hlk hnm hex => ?_)
  intro H locs ls hM hS hl
  have hl : lv_has ls 3 [(0, .ref o), (1, .int x1)] := hl
  unfold w_X10_renderMessage at h
  refine lv_aload_n S.1 S.2.1 dX10_renderMessage_0 rfl (lv_at hl 0 rfl) ?_
  refine lv_iload_n S.1 S.2.1 dX10_renderMessage_1 rfl (lv_at hl 1 rfl) ?_
  obtain ⟨k1, h⟩ := h
  refine mz_VX S hG hM hS cf_9 k1 (As := [.int x1]) (rest := []) (c_X10_existingMessage hl0 h) yf_X10_existingMessage tw_1189 tw_1191 ts_13 ⟨Nat.le_of_ble_eq_true rfl, Nat.le_of_ble_eq_true rfl⟩ ⟨(Nat.le_of_ble_eq_true rfl), (Nat.le_of_ble_eq_true rfl)⟩ rfl hl.1 rfl (Nat.le_of_ble_eq_true rfl) dX10_renderMessage_2 (fun E ce q9 μ9 H locs hp hM hS hc9 hv9 hcl9 => ?_) (fun v9 μ9 H locs hp hM hS => ?_)
  · obtain ⟨e9, h⟩ := hp
    rw [e9] at hM
    exact mz_out hex hlk hM hS hc9 hv9 hcl9 (Nat.le_of_ble_eq_true rfl) (Nat.le_of_ble_eq_true rfl) h
  · obtain ⟨ru2, rfl, e9, h⟩ := hp
    rw [e9] at hM
    refine W.cs (cells' := 1) (slots' := 6) rfl rfl ?_
    refine mz_astore_n (x := ru2) (lv' := [(2, va_rf ru2), (0, .ref o), (1, .int x1)]) S.1 S.2.1 dX10_renderMessage_5 rfl hl (by decide) rfl (fun ls hl => ?_)
    refine lv_aload_n S.1 S.2.1 dX10_renderMessage_6 rfl (lv_at hl 1 rfl) ?_
    refine mz_getr S hG hM cf_9 fd_294 tw_353 dX10_renderMessage_7 k1 ?_
    refine lv_iconst (v := (nI 0)) S.1 S.2.1 dX10_renderMessage_10 (by decide) ?_
    obtain ⟨a3, e4, h⟩ := h
    refine mz_o1 e4 ?_
    obtain ⟨k5, h⟩ := h
    refine mz_V S hG hM hS cf_0 k5 (As := [.int (nI 0)]) (rest := []) (c_J4_setLength_d00df h) yf_J4_setLength_d00df tw_459 tw_460 tw_461 ⟨Nat.le_of_ble_eq_true rfl, Nat.le_of_ble_eq_true rfl⟩ ⟨(Nat.le_of_ble_eq_true rfl), (Nat.le_of_ble_eq_true rfl)⟩ rfl hl.1 rfl (Nat.le_of_ble_eq_true rfl) dX10_renderMessage_11 (fun v9 μ6 H locs hp hM hS => ?_)
    obtain ⟨rfl, h⟩ := hp
    refine W.cs (cells' := 1) (slots' := 6) rfl rfl ?_
    refine lv_aload_n S.1 S.2.1 dX10_renderMessage_14 rfl (lv_at hl 1 rfl) ?_
    obtain ⟨k7, h⟩ := h
    refine mz_getr S hG hM cf_9 fd_294 tw_353 dX10_renderMessage_15 k7 ?_
    refine mz_aload_n (x := ru2) S.1 S.2.1 dX10_renderMessage_18 rfl (lv_at hl 0 rfl) ?_
    obtain ⟨a8, e9, h⟩ := h
    refine mz_o0 e9 ?_
    obtain ⟨k10, h⟩ := h
    refine mz_geti S hG hM cf_4 fd_128 tw_165 dX10_renderMessage_19 k10 ?_
    obtain ⟨a11, e12, h⟩ := h
    refine mz_o1 e12 ?_
    obtain ⟨k13, h⟩ := h
    refine mz_V S hG hM hS cf_0 k13 (As := [.int (mI μ6 128 a8)]) (rest := []) (c_J4_append_bf812 h) yf_J4_append_bf812 tw_805 tw_595 tw_596 ⟨Nat.le_of_ble_eq_true rfl, Nat.le_of_ble_eq_true rfl⟩ ⟨(Nat.le_of_ble_eq_true rfl), (Nat.le_of_ble_eq_true rfl)⟩ rfl hl.1 rfl (Nat.le_of_ble_eq_true rfl) dX10_renderMessage_22 (fun v9 μ15 H locs hp hM hS => ?_)
    obtain ⟨ru14, rfl, h⟩ := hp
    refine W.cs (cells' := 1) (slots' := 6) rfl rfl ?_
    refine lv_pop S.1 S.2.1 dX10_renderMessage_25 (mz_cat _) ?_
    refine lv_aload_n S.1 S.2.1 dX10_renderMessage_26 rfl (lv_at hl 1 rfl) ?_
    obtain ⟨k16, h⟩ := h
    refine mz_getr S hG hM cf_9 fd_294 tw_353 dX10_renderMessage_27 k16 ?_
    refine lv_bipush (v := (nI 62)) S.1 S.2.1 dX10_renderMessage_30 (by decide) ?_
    obtain ⟨a17, e18, h⟩ := h
    refine mz_o1 e18 ?_
    obtain ⟨k19, h⟩ := h
    refine mz_V S hG hM hS cf_0 k19 (As := [.int (nI 62)]) (rest := []) (c_J4_append_cf468 h) yf_J4_append_cf468 tw_806 tw_807 tw_808 ⟨Nat.le_of_ble_eq_true rfl, Nat.le_of_ble_eq_true rfl⟩ ⟨(Nat.le_of_ble_eq_true rfl), (Nat.le_of_ble_eq_true rfl)⟩ rfl hl.1 rfl (Nat.le_of_ble_eq_true rfl) dX10_renderMessage_32 (fun v9 μ21 H locs hp hM hS => ?_)
    obtain ⟨ru20, rfl, h⟩ := hp
    refine W.cs (cells' := 1) (slots' := 6) rfl rfl ?_
    refine lv_pop S.1 S.2.1 dX10_renderMessage_35 (mz_cat _) ?_
    refine lv_aload_n S.1 S.2.1 dX10_renderMessage_36 rfl (lv_at hl 1 rfl) ?_
    obtain ⟨k22, h⟩ := h
    refine mz_getr S hG hM cf_9 fd_294 tw_353 dX10_renderMessage_37 k22 ?_
    refine mz_aload_n (x := ru2) S.1 S.2.1 dX10_renderMessage_40 rfl (lv_at hl 0 rfl) ?_
    refine mz_o0 e9 ?_
    obtain ⟨k23, h⟩ := h
    refine mz_geti S hG hM cf_4 fd_129 tw_168 dX10_renderMessage_41 k23 ?_
    obtain ⟨a24, e25, h⟩ := h
    refine mz_o1 e25 ?_
    obtain ⟨k26, h⟩ := h
    refine mz_V S hG hM hS cf_0 k26 (As := [.int (mI μ21 129 a8)]) (rest := []) (c_J4_append_bf812 h) yf_J4_append_bf812 tw_805 tw_595 tw_596 ⟨Nat.le_of_ble_eq_true rfl, Nat.le_of_ble_eq_true rfl⟩ ⟨(Nat.le_of_ble_eq_true rfl), (Nat.le_of_ble_eq_true rfl)⟩ rfl hl.1 rfl (Nat.le_of_ble_eq_true rfl) dX10_renderMessage_44 (fun v9 μ28 H locs hp hM hS => ?_)
    obtain ⟨ru27, rfl, h⟩ := hp
    refine W.cs (cells' := 1) (slots' := 6) rfl rfl ?_
    refine lv_pop S.1 S.2.1 dX10_renderMessage_47 (mz_cat _) ?_
    refine lv_aload_n S.1 S.2.1 dX10_renderMessage_48 rfl (lv_at hl 1 rfl) ?_
    obtain ⟨k29, h⟩ := h
    refine mz_getr S hG hM cf_9 fd_294 tw_353 dX10_renderMessage_49 k29 ?_
    refine lv_bipush (v := (nI 107)) S.1 S.2.1 dX10_renderMessage_52 (by decide) ?_
    obtain ⟨a30, e31, h⟩ := h
    refine mz_o1 e31 ?_
    obtain ⟨k32, h⟩ := h
    refine mz_V S hG hM hS cf_0 k32 (As := [.int (nI 107)]) (rest := []) (c_J4_append_cf468 h) yf_J4_append_cf468 tw_806 tw_807 tw_808 ⟨Nat.le_of_ble_eq_true rfl, Nat.le_of_ble_eq_true rfl⟩ ⟨(Nat.le_of_ble_eq_true rfl), (Nat.le_of_ble_eq_true rfl)⟩ rfl hl.1 rfl (Nat.le_of_ble_eq_true rfl) dX10_renderMessage_54 (fun v9 μ34 H locs hp hM hS => ?_)
    obtain ⟨ru33, rfl, h⟩ := hp
    refine W.cs (cells' := 1) (slots' := 6) rfl rfl ?_
    refine lv_pop S.1 S.2.1 dX10_renderMessage_57 (mz_cat _) ?_
    refine lv_aload_n S.1 S.2.1 dX10_renderMessage_58 rfl (lv_at hl 1 rfl) ?_
    obtain ⟨k35, h⟩ := h
    refine mz_getr S hG hM cf_9 fd_294 tw_353 dX10_renderMessage_59 k35 ?_
    refine mz_aload_n (x := ru2) S.1 S.2.1 dX10_renderMessage_62 rfl (lv_at hl 0 rfl) ?_
    refine mz_o0 e9 ?_
    obtain ⟨k36, h⟩ := h
    refine mz_geti S hG hM cf_4 fd_130 tw_171 dX10_renderMessage_63 k36 ?_
    obtain ⟨a37, e38, h⟩ := h
    refine mz_o1 e38 ?_
    obtain ⟨k39, h⟩ := h
    refine mz_V S hG hM hS cf_0 k39 (As := [.int (mI μ34 130 a8)]) (rest := []) (c_J4_append_bf812 h) yf_J4_append_bf812 tw_805 tw_595 tw_596 ⟨Nat.le_of_ble_eq_true rfl, Nat.le_of_ble_eq_true rfl⟩ ⟨(Nat.le_of_ble_eq_true rfl), (Nat.le_of_ble_eq_true rfl)⟩ rfl hl.1 rfl (Nat.le_of_ble_eq_true rfl) dX10_renderMessage_66 (fun v9 μ41 H locs hp hM hS => ?_)
    obtain ⟨ru40, rfl, h⟩ := hp
    refine W.cs (cells' := 1) (slots' := 6) rfl rfl ?_
    refine lv_pop S.1 S.2.1 dX10_renderMessage_69 (mz_cat _) ?_
    refine lv_aload_n S.1 S.2.1 dX10_renderMessage_70 rfl (lv_at hl 1 rfl) ?_
    obtain ⟨k42, h⟩ := h
    refine mz_getr S hG hM cf_9 fd_294 tw_353 dX10_renderMessage_71 k42 ?_
    refine lv_bipush (v := (nI 97)) S.1 S.2.1 dX10_renderMessage_74 (by decide) ?_
    obtain ⟨a43, e44, h⟩ := h
    refine mz_o1 e44 ?_
    obtain ⟨k45, h⟩ := h
    refine mz_V S hG hM hS cf_0 k45 (As := [.int (nI 97)]) (rest := []) (c_J4_append_cf468 h) yf_J4_append_cf468 tw_806 tw_807 tw_808 ⟨Nat.le_of_ble_eq_true rfl, Nat.le_of_ble_eq_true rfl⟩ ⟨(Nat.le_of_ble_eq_true rfl), (Nat.le_of_ble_eq_true rfl)⟩ rfl hl.1 rfl (Nat.le_of_ble_eq_true rfl) dX10_renderMessage_76 (fun v9 μ47 H locs hp hM hS => ?_)
    obtain ⟨ru46, rfl, h⟩ := hp
    refine W.cs (cells' := 1) (slots' := 6) rfl rfl ?_
    refine lv_pop S.1 S.2.1 dX10_renderMessage_79 (mz_cat _) ?_
    refine lv_aload_n S.1 S.2.1 dX10_renderMessage_80 rfl (lv_at hl 1 rfl) ?_
    obtain ⟨k48, h⟩ := h
    refine mz_getr S hG hM cf_9 fd_294 tw_353 dX10_renderMessage_81 k48 ?_
    refine mz_aload_n (x := ru2) S.1 S.2.1 dX10_renderMessage_84 rfl (lv_at hl 0 rfl) ?_
    refine mz_o0 e9 ?_
    obtain ⟨k49, h⟩ := h
    refine mz_geti S hG hM cf_4 fd_131 tw_174 dX10_renderMessage_85 k49 ?_
    obtain ⟨a50, e51, h⟩ := h
    refine mz_o1 e51 ?_
    obtain ⟨k52, h⟩ := h
    refine mz_V S hG hM hS cf_0 k52 (As := [.int (mI μ47 131 a8)]) (rest := []) (c_J4_append_bf812 h) yf_J4_append_bf812 tw_805 tw_595 tw_596 ⟨Nat.le_of_ble_eq_true rfl, Nat.le_of_ble_eq_true rfl⟩ ⟨(Nat.le_of_ble_eq_true rfl), (Nat.le_of_ble_eq_true rfl)⟩ rfl hl.1 rfl (Nat.le_of_ble_eq_true rfl) dX10_renderMessage_88 (fun v9 μ54 H locs hp hM hS => ?_)
    obtain ⟨ru53, rfl, h⟩ := hp
    refine W.cs (cells' := 1) (slots' := 6) rfl rfl ?_
    refine lv_pop S.1 S.2.1 dX10_renderMessage_91 (mz_cat _) ?_
    refine lv_aload_n S.1 S.2.1 dX10_renderMessage_92 rfl (lv_at hl 1 rfl) ?_
    obtain ⟨k55, h⟩ := h
    refine mz_getr S hG hM cf_9 fd_294 tw_353 dX10_renderMessage_93 k55 ?_
    refine mz_aload_n (x := ru2) S.1 S.2.1 dX10_renderMessage_96 rfl (lv_at hl 0 rfl) ?_
    refine mz_o0 e9 ?_
    obtain ⟨k56, h⟩ := h
    refine mz_geti S hG hM cf_4 fd_132 tw_177 dX10_renderMessage_97 k56 ?_
    obtain ⟨a57, e58, h⟩ := h
    refine mz_o1 e58 ?_
    obtain ⟨k59, h⟩ := h
    refine mz_V S hG hM hS cf_0 k59 (As := [.int (mI μ54 132 a8)]) (rest := []) (c_J4_append_cf468 h) yf_J4_append_cf468 tw_806 tw_807 tw_808 ⟨Nat.le_of_ble_eq_true rfl, Nat.le_of_ble_eq_true rfl⟩ ⟨(Nat.le_of_ble_eq_true rfl), (Nat.le_of_ble_eq_true rfl)⟩ rfl hl.1 rfl (Nat.le_of_ble_eq_true rfl) dX10_renderMessage_100 (fun v9 μ61 H locs hp hM hS => ?_)
    obtain ⟨ru60, rfl, h⟩ := hp
    refine W.cs (cells' := 1) (slots' := 6) rfl rfl ?_
    refine lv_pop S.1 S.2.1 dX10_renderMessage_103 (mz_cat _) ?_
    refine lv_aload_n S.1 S.2.1 dX10_renderMessage_104 rfl (lv_at hl 1 rfl) ?_
    obtain ⟨k62, h⟩ := h
    refine mz_getr S hG hM cf_9 fd_294 tw_353 dX10_renderMessage_105 k62 ?_
    obtain ⟨a63, e64, h⟩ := h
    refine mz_o0 e64 ?_
    obtain ⟨k65, h⟩ := h
    refine mz_V S hG hM hS cf_0 k65 (As := []) (rest := []) (c_J4_length_8abf5 h) yf_J4_length_8abf5 tw_828 tw_641 tw_1983 ⟨Nat.le_of_ble_eq_true rfl, Nat.le_of_ble_eq_true rfl⟩ ⟨(Nat.le_of_ble_eq_true rfl), (Nat.le_of_ble_eq_true rfl)⟩ rfl hl.1 rfl (Nat.le_of_ble_eq_true rfl) dX10_renderMessage_108 (fun v9 μ9 H locs hp hM hS => ?_)
    obtain ⟨u66, rfl, e9, h⟩ := hp
    rw [e9] at hM
    refine W.cs (cells' := 1) (slots' := 6) rfl rfl ?_
    exact vx_ret (mz_iret S hr hlk hM hS rfl (Nat.le_of_ble_eq_true rfl) (Nat.le_of_ble_eq_true rfl) dX10_renderMessage_111 ⟨_, rfl, h⟩)
set_option maxRecDepth 100000 in
set_option maxHeartbeats 4000000 in
theorem c_X10_renderCrows {l : Launch} {G : mgT} {μ : mmT} {o : Nat} {Q : Int32 → mmT → Prop} (h : w_X10_renderCrows G μ o Q) : MC G l yX10_renderCrows cX10_renderCrows 3 (some .int) { frames := 3, cells := 0, slots := 0, locals := 70 } [.ref o] μ (pI Q) := by
  refine mz_MC (by decide +kernel) (Nat.le_of_ble_eq_true rfl) (fun p e s m args below meth c S hG hr hlk hnm => ?_)
  have hB66 : ∀ (K10 : Int32 → mmT → Prop) (kK10 : ∀ (x1 : Int32) (μ : mmT) (H : Heap) (locs : List Loc) (ls : Array Slot), Mm G μ H → va_S (Ah G) s.heap H locs → lv_has ls 3 [(0, .ref o), (1, .int x1)] → K10 x1 μ → W p l e { frames := 3, cells := 0, slots := 0, locals := 70 } s m args below meth c H locs 0 0 (MQ below (mQ G (pI Q)) args s 0 0 (Ah G)) (F0 m 10 ls [])) (x1 : Int32) (μ : mmT) (H : Heap) (locs : List Loc) (ls : Array Slot), Mm G μ H → va_S (Ah G) s.heap H locs → lv_has ls 3 [(0, .ref o), (1, .int x1)] → w_X10_renderCrows_b66 G o Q K10 x1 μ → W p l e { frames := 3, cells := 0, slots := 0, locals := 70 } s m args below meth c H locs 0 0 (MQ below (mQ G (pI Q)) args s 0 0 (Ah G)) (F0 m 66 ls []) := by
    intro K10 kK10 x1 μ H locs ls hM hS hl h
    unfold w_X10_renderCrows_b66 at h
    refine lv_iinc (v := (x1 + nI 1)) (lv' := [(1, .int (x1 + nI 1)), (0, .ref o)]) S.1 S.2.1 dX10_renderCrows_66 hl (k := 1) rfl rfl (by decide) rfl (fun ls hl => ?_)
    refine lv_goto (tgt := 10) S.1 S.2.1 dX10_renderCrows_69 (by decide) ?_
    exact kK10 (x1 + nI 1) μ H locs ls hM hS (lv_sub hl [1, 0] rfl) h
  have hB10 : ∀ (n : Nat) (x1 : Int32) (μ : mmT) (H : Heap) (locs : List Loc) (ls : Array Slot), Mm G μ H → va_S (Ah G) s.heap H locs → lv_has ls 3 [(0, .ref o), (1, .int x1)] → w_X10_renderCrows_l10 G o Q  n x1 μ → W p l e { frames := 3, cells := 0, slots := 0, locals := 70 } s m args below meth c H locs 0 0 (MQ below (mQ G (pI Q)) args s 0 0 (Ah G)) (F0 m 10 ls []) := by
    intro  n
    induction n with
    | zero =>
      intro x1 μ H locs ls hM hS hl h
      exact False.elim h
    | succ n ih =>
      intro x1 μ H locs ls hM hS hl h
      have h : w_X10_renderCrows_b10 G o Q  (w_X10_renderCrows_l10 G o Q  n) x1 μ := h
      unfold w_X10_renderCrows_b10 at h
      refine lv_iload_n S.1 S.2.1 dX10_renderCrows_10 rfl (lv_at hl 1 rfl) ?_
      refine lv_aload_n S.1 S.2.1 dX10_renderCrows_11 rfl (lv_at hl 0 rfl) ?_
      obtain ⟨k6, h⟩ := h
      refine mz_getr S hG hM cf_9 fd_288 tw_347 dX10_renderCrows_12 k6 ?_
      obtain ⟨a7, e8, h⟩ := h
      refine mz_o0 e8 ?_
      obtain ⟨k9, h⟩ := h
      refine mz_geti S hG hM cf_7 fd_229 tw_204 dX10_renderCrows_15 k9 ?_
      refine lv_icmp_ge (tgt := 72) S.1 S.2.1 dX10_renderCrows_18 (by decide) (fun c10 => ?_) (fun c10 => ?_)
      · have h := h.1 c10
        refine lv_aload_n S.1 S.2.1 dX10_renderCrows_72 rfl (lv_at hl 0 rfl) ?_
        refine mz_getr S hG hM cf_9 fd_294 tw_353 dX10_renderCrows_73 k6 ?_
        obtain ⟨a11, e12, h⟩ := h
        refine mz_o0 e12 ?_
        obtain ⟨k13, h⟩ := h
        refine mz_V S hG hM hS cf_0 k13 (As := []) (rest := []) (c_J4_length_8abf5 h) yf_J4_length_8abf5 tw_828 tw_641 tw_1983 ⟨Nat.le_of_ble_eq_true rfl, Nat.le_of_ble_eq_true rfl⟩ ⟨(Nat.le_of_ble_eq_true rfl), (Nat.le_of_ble_eq_true rfl)⟩ rfl hl.1 rfl (Nat.le_of_ble_eq_true rfl) dX10_renderCrows_76 (fun v9 μ9 H locs hp hM hS => ?_)
        obtain ⟨u14, rfl, e9, h⟩ := hp
        rw [e9] at hM
        refine W.cs (cells' := 0) (slots' := 0) rfl rfl ?_
        exact mz_iret S hr hlk hM hS rfl (Nat.le_of_ble_eq_true rfl) (Nat.le_of_ble_eq_true rfl) dX10_renderCrows_79 ⟨_, rfl, h⟩
      · have h := h.2 c10
        refine lv_aload_n S.1 S.2.1 dX10_renderCrows_21 rfl (lv_at hl 0 rfl) ?_
        refine mz_getr S hG hM cf_9 fd_288 tw_347 dX10_renderCrows_22 k6 ?_
        refine mz_o0 e8 ?_
        refine mz_getr S hG hM cf_7 fd_225 tw_196 dX10_renderCrows_25 k9 ?_
        refine lv_iload_n S.1 S.2.1 dX10_renderCrows_28 rfl (lv_at hl 1 rfl) ?_
        obtain ⟨a15, e16, h⟩ := h
        refine mz_o1 e16 ?_
        obtain ⟨k17, h⟩ := h
        obtain ⟨b18, h⟩ := h
        refine mz_aald (j := 6) S hG hM dX10_renderCrows_29 (by decide) rfl k17 b18 ?_
        refine mz_astore_n (x := (mB μ a15 x1.toNatClampNeg)) (lv' := [(2, va_rf (mB μ a15 x1.toNatClampNeg)), (0, .ref o), (1, .int x1)]) S.1 S.2.1 dX10_renderCrows_30 rfl hl (by decide) rfl (fun ls hl => ?_)
        refine mz_aload_n (x := (mB μ a15 x1.toNatClampNeg)) S.1 S.2.1 dX10_renderCrows_31 rfl (lv_at hl 0 rfl) ?_
        obtain ⟨a19, e20, h⟩ := h
        refine mz_o0 e20 ?_
        obtain ⟨k21, h⟩ := h
        refine mz_geti S hG hM cf_2 fd_64 tw_144 dX10_renderCrows_32 k21 ?_
        refine lv_if_eq (tgt := 56) S.1 S.2.1 dX10_renderCrows_35 (by decide) (fun c22 => ?_) (fun c22 => ?_)
        · have h := h.1 c22
          refine lv_aload_n S.1 S.2.1 dX10_renderCrows_56 rfl (lv_at hl 1 rfl) ?_
          refine mz_getr S hG hM cf_9 fd_294 tw_353 dX10_renderCrows_57 k6 ?_
          refine lv_bipush (v := (nI 46)) S.1 S.2.1 dX10_renderCrows_60 (by decide) ?_
          obtain ⟨a23, e24, h⟩ := h
          refine mz_o1 e24 ?_
          obtain ⟨k25, h⟩ := h
          refine mz_V S hG hM hS cf_0 k25 (As := [.int (nI 46)]) (rest := []) (c_J4_append_cf468 h) yf_J4_append_cf468 tw_806 tw_807 tw_808 ⟨Nat.le_of_ble_eq_true rfl, Nat.le_of_ble_eq_true rfl⟩ ⟨(Nat.le_of_ble_eq_true rfl), (Nat.le_of_ble_eq_true rfl)⟩ rfl hl.1 rfl (Nat.le_of_ble_eq_true rfl) dX10_renderCrows_62 (fun v9 μ27 H locs hp hM hS => ?_)
          obtain ⟨ru26, rfl, h⟩ := hp
          refine W.cs (cells' := 0) (slots' := 0) rfl rfl ?_
          refine lv_pop S.1 S.2.1 dX10_renderCrows_65 (mz_cat _) ?_
          exact hB66 (w_X10_renderCrows_l10 G o Q  n) ih x1 μ27 H locs ls hM hS (lv_sub hl [1, 2] rfl) h
        · have h := h.2 c22
          refine lv_aload_n S.1 S.2.1 dX10_renderCrows_38 rfl (lv_at hl 1 rfl) ?_
          refine mz_getr S hG hM cf_9 fd_294 tw_353 dX10_renderCrows_39 k6 ?_
          refine mz_aload_n (x := (mB μ a15 x1.toNatClampNeg)) S.1 S.2.1 dX10_renderCrows_42 rfl (lv_at hl 0 rfl) ?_
          refine mz_o0 e20 ?_
          refine mz_geti S hG hM cf_2 fd_65 tw_147 dX10_renderCrows_43 k21 ?_
          refine lv_bipush (v := (nI 10)) S.1 S.2.1 dX10_renderCrows_46 (by decide) ?_
          refine lv_irem S.1 S.2.1 dX10_renderCrows_48 (by decide) ?_
          obtain ⟨a29, e30, h⟩ := h
          refine mz_o1 e30 ?_
          obtain ⟨k31, h⟩ := h
          refine mz_V S hG hM hS cf_0 k31 (As := [.int ((mI μ 65 a19) - (mI μ 65 a19) / (nI 10) * (nI 10))]) (rest := []) (c_J4_append_bf812 h) yf_J4_append_bf812 tw_805 tw_595 tw_596 ⟨Nat.le_of_ble_eq_true rfl, Nat.le_of_ble_eq_true rfl⟩ ⟨(Nat.le_of_ble_eq_true rfl), (Nat.le_of_ble_eq_true rfl)⟩ rfl hl.1 rfl (Nat.le_of_ble_eq_true rfl) dX10_renderCrows_49 (fun v9 μ33 H locs hp hM hS => ?_)
          obtain ⟨ru32, rfl, h⟩ := hp
          refine W.cs (cells' := 0) (slots' := 0) rfl rfl ?_
          refine lv_pop S.1 S.2.1 dX10_renderCrows_52 (mz_cat _) ?_
          refine lv_goto (tgt := 66) S.1 S.2.1 dX10_renderCrows_53 (by decide) ?_
          exact hB66 (w_X10_renderCrows_l10 G o Q  n) ih x1 μ33 H locs ls hM hS (lv_sub hl [1, 2] rfl) h
  intro H locs ls hM hS hl
  have hl : lv_has ls 3 [(0, .ref o)] := hl
  unfold w_X10_renderCrows at h
  refine lv_aload_n S.1 S.2.1 dX10_renderCrows_0 rfl (lv_at hl 0 rfl) ?_
  obtain ⟨k1, h⟩ := h
  refine mz_getr S hG hM cf_9 fd_294 tw_353 dX10_renderCrows_1 k1 ?_
  refine lv_iconst (v := (nI 0)) S.1 S.2.1 dX10_renderCrows_4 (by decide) ?_
  obtain ⟨a2, e3, h⟩ := h
  refine mz_o1 e3 ?_
  obtain ⟨k4, h⟩ := h
  refine mz_V S hG hM hS cf_0 k4 (As := [.int (nI 0)]) (rest := []) (c_J4_setLength_d00df h) yf_J4_setLength_d00df tw_459 tw_460 tw_461 ⟨Nat.le_of_ble_eq_true rfl, Nat.le_of_ble_eq_true rfl⟩ ⟨(Nat.le_of_ble_eq_true rfl), (Nat.le_of_ble_eq_true rfl)⟩ rfl hl.1 rfl (Nat.le_of_ble_eq_true rfl) dX10_renderCrows_5 (fun v9 μ5 H locs hp hM hS => ?_)
  obtain ⟨rfl, h⟩ := hp
  refine W.cs (cells' := 0) (slots' := 0) rfl rfl ?_
  refine lv_iconst (v := (nI 0)) S.1 S.2.1 dX10_renderCrows_8 (by decide) ?_
  refine lv_istore_n (lv' := [(1, .int (nI 0)), (0, .ref o)]) S.1 S.2.1 dX10_renderCrows_9 rfl hl (by decide) rfl (fun ls hl => ?_)
  obtain ⟨n9, h⟩ := h
  exact hB10  n9 (nI 0) μ5 H locs ls hM hS (lv_sub hl [1, 0] rfl) h

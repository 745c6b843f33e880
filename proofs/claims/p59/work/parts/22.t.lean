set_option maxRecDepth 100000 in
set_option maxHeartbeats 4000000 in
theorem c_X10_existingNest {l : Launch} {G : mgT} {μ : mmT} {o : Nat} {x1 : Int32} {Q : Option Nat → Prop} {X : String → Prop} (hl0 : l.stackTraces = false) (h : w_X10_existingNest G μ o x1 Q X) : MX G l yX10_existingNest cX10_existingNest 3 (some (.object "CrowMail$Nest")) { frames := 6, cells := 1, slots := 6, locals := 100 } [.ref o, .int x1] μ (pR (fun r μ' => μ' = μ ∧ Q r)) (fun E μ' => μ' = μ ∧ X E) := by
  refine mz_MX (by decide +kernel) (Nat.le_of_ble_eq_true rfl) (fun p e s m args below meth c S hG hr hlk hnm hex => ?_)
  intro H locs ls hM hS hl
  have hl : lv_has ls 3 [(0, .ref o), (1, .int x1)] := hl
  unfold w_X10_existingNest at h
  refine lv_aload_n S.1 S.2.1 dX10_existingNest_0 rfl (lv_at hl 0 rfl) ?_
  obtain ⟨k1, h⟩ := h
  refine mz_getr S hG hM cf_9 fd_288 tw_343 dX10_existingNest_1 k1 ?_
  refine lv_iload_n S.1 S.2.1 dX10_existingNest_4 rfl (lv_at hl 1 rfl) ?_
  obtain ⟨a2, e3, h⟩ := h
  refine mz_o1 e3 ?_
  obtain ⟨k4, h⟩ := h
  refine mz_V S hG hM hS cf_7 k4 (As := [.int x1]) (rest := []) (c_X8_nestAt h) yf_X8_nestAt tw_1134 tw_576 tw_577 ⟨Nat.le_of_ble_eq_true rfl, Nat.le_of_ble_eq_true rfl⟩ ⟨(Nat.le_of_ble_eq_true rfl), (Nat.le_of_ble_eq_true rfl)⟩ rfl hl.1 rfl (Nat.le_of_ble_eq_true rfl) dX10_existingNest_5 (fun v9 μ9 H locs hp hM hS => ?_)
  obtain ⟨ru5, rfl, e9, h⟩ := hp
  rw [e9] at hM
  refine W.cs (cells' := 0) (slots' := 0) rfl rfl ?_
  refine mz_astore_n (x := ru5) (lv' := [(2, va_rf ru5), (0, .ref o), (1, .int x1)]) S.1 S.2.1 dX10_existingNest_8 rfl hl (by decide) rfl (fun ls hl => ?_)
  refine mz_aload_n (x := ru5) S.1 S.2.1 dX10_existingNest_9 rfl (lv_at hl 0 rfl) ?_
  refine mz_ifnonnull (tgt := 23) S.1 S.2.1 dX10_existingNest_10 (by decide) (fun a6 e7 => ?_) (fun e7 => ?_)
  · have h := h.2 a6 e7
    refine mz_aload_n (x := ru5) S.1 S.2.1 dX10_existingNest_23 rfl (lv_at hl 0 rfl) ?_
    exact vx_ret (mz_aret (x := ru5) S hr (by first | exact Or.inl ⟨_, rfl⟩ | exact Or.inr ⟨_, rfl⟩) hlk hM hS (Nat.le_of_ble_eq_true rfl) (Nat.le_of_ble_eq_true rfl) dX10_existingNest_24 ⟨_, rfl, rfl, h⟩)
  · have h := h.1 e7
    exact mz_throw S hl0 hG hM hS hex hlk hl.1 xf_103_107 (j := 7) rfl dX10_existingNest_13 dX10_existingNest_16 dX10_existingNest_17 dX10_existingNest_19 dX10_existingNest_22 (Nat.le_of_ble_eq_true rfl) (Nat.le_of_ble_eq_true rfl) (Nat.le_of_ble_eq_true rfl) (Nat.le_of_ble_eq_true rfl) (Nat.le_of_ble_eq_true rfl) (Nat.le_of_ble_eq_true rfl) ⟨rfl, h⟩
set_option maxRecDepth 100000 in
set_option maxHeartbeats 4000000 in
theorem c_X10_distance {l : Launch} {G : mgT} {μ : mmT} {o : Nat} {x1 : Int32} {Q : Int32 → Prop} {X : String → Prop} (hl0 : l.stackTraces = false) (h : w_X10_distance G μ o x1 Q X) : MX G l yX10_distance cX10_distance 2 (some .int) { frames := 7, cells := 1, slots := 6, locals := 122 } [.ref o, .int x1] μ (pI (fun r μ' => μ' = μ ∧ Q r)) (fun E μ' => μ' = μ ∧ X E) := by
  refine mz_MX (by decide +kernel) (Nat.le_of_ble_eq_true rfl) (fun p e s m args below meth c S hG hr hlk hnm hex => ?_)
  intro H locs ls hM hS hl
  have hl : lv_has ls 2 [(0, .ref o), (1, .int x1)] := hl
  unfold w_X10_distance at h
  refine lv_aload_n S.1 S.2.1 dX10_distance_0 rfl (lv_at hl 0 rfl) ?_
  refine lv_iload_n S.1 S.2.1 dX10_distance_1 rfl (lv_at hl 1 rfl) ?_
  obtain ⟨k1, h⟩ := h
  refine mz_VX S hG hM hS cf_9 k1 (As := [.int x1]) (rest := []) (c_X10_existingNest hl0 h) yf_X10_existingNest tw_1130 tw_1132 ts_17 ⟨Nat.le_of_ble_eq_true rfl, Nat.le_of_ble_eq_true rfl⟩ ⟨(Nat.le_of_ble_eq_true rfl), (Nat.le_of_ble_eq_true rfl)⟩ rfl hl.1 rfl (Nat.le_of_ble_eq_true rfl) dX10_distance_2 (fun E ce q9 μ9 H locs hp hM hS hc9 hv9 hcl9 => ?_) (fun v9 μ9 H locs hp hM hS => ?_)
  · obtain ⟨e9, h⟩ := hp
    rw [e9] at hM
    exact mz_out hex hlk hM hS hc9 hv9 hcl9 (Nat.le_of_ble_eq_true rfl) (Nat.le_of_ble_eq_true rfl) ⟨rfl, h⟩
  · obtain ⟨ru2, rfl, e9, h⟩ := hp
    rw [e9] at hM
    refine W.cs (cells' := 1) (slots' := 6) rfl rfl ?_
    obtain ⟨a3, e4, h⟩ := h
    refine mz_o0 e4 ?_
    obtain ⟨k5, h⟩ := h
    refine mz_geti S hG hM cf_5 fd_162 tw_106 dX10_distance_5 k5 ?_
    exact vx_ret (mz_iret S hr hlk hM hS rfl (Nat.le_of_ble_eq_true rfl) (Nat.le_of_ble_eq_true rfl) dX10_distance_8 ⟨_, rfl, rfl, h⟩)
set_option maxRecDepth 100000 in
set_option maxHeartbeats 4000000 in
theorem c_X10_loss {l : Launch} {G : mgT} {μ : mmT} {o : Nat} {x1 : Int32} {Q : Int32 → Prop} {X : String → Prop} (hl0 : l.stackTraces = false) (h : w_X10_loss G μ o x1 Q X) : MX G l yX10_loss cX10_loss 2 (some .int) { frames := 7, cells := 1, slots := 6, locals := 122 } [.ref o, .int x1] μ (pI (fun r μ' => μ' = μ ∧ Q r)) (fun E μ' => μ' = μ ∧ X E) := by
  refine mz_MX (by decide +kernel) (Nat.le_of_ble_eq_true rfl) (fun p e s m args below meth c S hG hr hlk hnm hex => ?_)
  intro H locs ls hM hS hl
  have hl : lv_has ls 2 [(0, .ref o), (1, .int x1)] := hl
  unfold w_X10_loss at h
  refine lv_aload_n S.1 S.2.1 dX10_loss_0 rfl (lv_at hl 0 rfl) ?_
  refine lv_iload_n S.1 S.2.1 dX10_loss_1 rfl (lv_at hl 1 rfl) ?_
  obtain ⟨k1, h⟩ := h
  refine mz_VX S hG hM hS cf_9 k1 (As := [.int x1]) (rest := []) (c_X10_existingNest hl0 h) yf_X10_existingNest tw_1130 tw_1132 ts_17 ⟨Nat.le_of_ble_eq_true rfl, Nat.le_of_ble_eq_true rfl⟩ ⟨(Nat.le_of_ble_eq_true rfl), (Nat.le_of_ble_eq_true rfl)⟩ rfl hl.1 rfl (Nat.le_of_ble_eq_true rfl) dX10_loss_2 (fun E ce q9 μ9 H locs hp hM hS hc9 hv9 hcl9 => ?_) (fun v9 μ9 H locs hp hM hS => ?_)
  · obtain ⟨e9, h⟩ := hp
    rw [e9] at hM
    exact mz_out hex hlk hM hS hc9 hv9 hcl9 (Nat.le_of_ble_eq_true rfl) (Nat.le_of_ble_eq_true rfl) ⟨rfl, h⟩
  · obtain ⟨ru2, rfl, e9, h⟩ := hp
    rw [e9] at hM
    refine W.cs (cells' := 1) (slots' := 6) rfl rfl ?_
    obtain ⟨a3, e4, h⟩ := h
    refine mz_o0 e4 ?_
    obtain ⟨k5, h⟩ := h
    refine mz_geti S hG hM cf_5 fd_163 tw_109 dX10_loss_5 k5 ?_
    exact vx_ret (mz_iret S hr hlk hM hS rfl (Nat.le_of_ble_eq_true rfl) (Nat.le_of_ble_eq_true rfl) dX10_loss_8 ⟨_, rfl, rfl, h⟩)
set_option maxRecDepth 100000 in
set_option maxHeartbeats 4000000 in
theorem c_X10_inboxSize {l : Launch} {G : mgT} {μ : mmT} {o : Nat} {x1 : Int32} {Q : Int32 → Prop} {X : String → Prop} (hl0 : l.stackTraces = false) (h : w_X10_inboxSize G μ o x1 Q X) : MX G l yX10_inboxSize cX10_inboxSize 2 (some .int) { frames := 7, cells := 1, slots := 6, locals := 122 } [.ref o, .int x1] μ (pI (fun r μ' => μ' = μ ∧ Q r)) (fun E μ' => μ' = μ ∧ X E) := by
  refine mz_MX (by decide +kernel) (Nat.le_of_ble_eq_true rfl) (fun p e s m args below meth c S hG hr hlk hnm hex => ?_)
  intro H locs ls hM hS hl
  have hl : lv_has ls 2 [(0, .ref o), (1, .int x1)] := hl
  unfold w_X10_inboxSize at h
  refine lv_aload_n S.1 S.2.1 dX10_inboxSize_0 rfl (lv_at hl 0 rfl) ?_
  refine lv_iload_n S.1 S.2.1 dX10_inboxSize_1 rfl (lv_at hl 1 rfl) ?_
  obtain ⟨k1, h⟩ := h
  refine mz_VX S hG hM hS cf_9 k1 (As := [.int x1]) (rest := []) (c_X10_existingNest hl0 h) yf_X10_existingNest tw_1130 tw_1132 ts_17 ⟨Nat.le_of_ble_eq_true rfl, Nat.le_of_ble_eq_true rfl⟩ ⟨(Nat.le_of_ble_eq_true rfl), (Nat.le_of_ble_eq_true rfl)⟩ rfl hl.1 rfl (Nat.le_of_ble_eq_true rfl) dX10_inboxSize_2 (fun E ce q9 μ9 H locs hp hM hS hc9 hv9 hcl9 => ?_) (fun v9 μ9 H locs hp hM hS => ?_)
  · obtain ⟨e9, h⟩ := hp
    rw [e9] at hM
    exact mz_out hex hlk hM hS hc9 hv9 hcl9 (Nat.le_of_ble_eq_true rfl) (Nat.le_of_ble_eq_true rfl) ⟨rfl, h⟩
  · obtain ⟨ru2, rfl, e9, h⟩ := hp
    rw [e9] at hM
    refine W.cs (cells' := 1) (slots' := 6) rfl rfl ?_
    obtain ⟨a3, e4, h⟩ := h
    refine mz_o0 e4 ?_
    obtain ⟨k5, h⟩ := h
    refine mz_geti S hG hM cf_5 fd_165 tw_115 dX10_inboxSize_5 k5 ?_
    exact vx_ret (mz_iret S hr hlk hM hS rfl (Nat.le_of_ble_eq_true rfl) (Nat.le_of_ble_eq_true rfl) dX10_inboxSize_8 ⟨_, rfl, rfl, h⟩)
set_option maxRecDepth 100000 in
set_option maxHeartbeats 4000000 in
theorem c_X10_inboxMessage {l : Launch} {G : mgT} {μ : mmT} {o : Nat} {x1 : Int32} {x2 : Int32} {Q : Int32 → Prop} {X : String → Prop} (hl0 : l.stackTraces = false) (h : w_X10_inboxMessage G μ o x1 x2 Q X) : MX G l yX10_inboxMessage cX10_inboxMessage 4 (some .int) { frames := 7, cells := 2, slots := 12, locals := 122 } [.ref o, .int x1, .int x2] μ (pI (fun r μ' => μ' = μ ∧ Q r)) (fun E μ' => μ' = μ ∧ X E) := by
  refine mz_MX (by decide +kernel) (Nat.le_of_ble_eq_true rfl) (fun p e s m args below meth c S hG hr hlk hnm hex => ?_)
  have hB18 : ∀  (H : Heap) (locs : List Loc) (ls : Array Slot), Mm G μ H → va_S (Ah G) s.heap H locs → lv_has ls 4 [(0, .ref o)] → w_X10_inboxMessage_b18 G μ o Q X   → W p l e { frames := 7, cells := 2, slots := 12, locals := 122 } s m args below meth c H locs (1) (6) (vx_MQ below (mQ G (pI (fun r μ' => μ' = μ ∧ Q r))) (mX G (fun E μ' => μ' = μ ∧ X E)) args s 2 12 (Ah G)) (F0 m 18 ls []) := by
    intro   H locs ls hM hS hl h
    unfold w_X10_inboxMessage_b18 at h
    exact mz_throwN S hl0 hG hM hS hex hlk hl.1 xf_108_112 (j := 0) rfl dX10_inboxMessage_18 dX10_inboxMessage_21 dX10_inboxMessage_22 dX10_inboxMessage_24 dX10_inboxMessage_27 (Nat.le_of_ble_eq_true rfl) (Nat.le_of_ble_eq_true rfl) (Nat.le_of_ble_eq_true rfl) (Nat.le_of_ble_eq_true rfl) (Nat.le_of_ble_eq_true rfl) (Nat.le_of_ble_eq_true rfl) ⟨rfl, h⟩
  intro H locs ls hM hS hl
  have hl : lv_has ls 4 [(0, .ref o), (1, .int x1), (2, .int x2)] := hl
  unfold w_X10_inboxMessage at h
  refine lv_aload_n S.1 S.2.1 dX10_inboxMessage_0 rfl (lv_at hl 0 rfl) ?_
  refine lv_iload_n S.1 S.2.1 dX10_inboxMessage_1 rfl (lv_at hl 1 rfl) ?_
  obtain ⟨k1, h⟩ := h
  refine mz_VX S hG hM hS cf_9 k1 (As := [.int x1]) (rest := []) (c_X10_existingNest hl0 h) yf_X10_existingNest tw_1130 tw_1132 ts_17 ⟨Nat.le_of_ble_eq_true rfl, Nat.le_of_ble_eq_true rfl⟩ ⟨(Nat.le_of_ble_eq_true rfl), (Nat.le_of_ble_eq_true rfl)⟩ rfl hl.1 rfl (Nat.le_of_ble_eq_true rfl) dX10_inboxMessage_2 (fun E ce q9 μ9 H locs hp hM hS hc9 hv9 hcl9 => ?_) (fun v9 μ9 H locs hp hM hS => ?_)
  · obtain ⟨e9, h⟩ := hp
    rw [e9] at hM
    exact mz_out hex hlk hM hS hc9 hv9 hcl9 (Nat.le_of_ble_eq_true rfl) (Nat.le_of_ble_eq_true rfl) ⟨rfl, h⟩
  · obtain ⟨ru2, rfl, e9, h⟩ := hp
    rw [e9] at hM
    refine W.cs (cells' := 1) (slots' := 6) rfl rfl ?_
    refine mz_astore_n (x := ru2) (lv' := [(3, va_rf ru2), (0, .ref o), (1, .int x1), (2, .int x2)]) S.1 S.2.1 dX10_inboxMessage_5 rfl hl (by decide) rfl (fun ls hl => ?_)
    refine lv_iload_n S.1 S.2.1 dX10_inboxMessage_6 rfl (lv_at hl 3 rfl) ?_
    refine lv_if_lt (tgt := 18) S.1 S.2.1 dX10_inboxMessage_7 (by decide) (fun c3 => ?_) (fun c3 => ?_)
    · have h := h.1 c3
      refine W.widen (k := 1) (n := 6) (by omega) (by omega) ?_
      exact hB18   H locs ls hM hS (lv_sub hl [1] rfl) h
    · have h := h.2 c3
      refine lv_iload_n S.1 S.2.1 dX10_inboxMessage_10 rfl (lv_at hl 3 rfl) ?_
      refine mz_aload_n (x := ru2) S.1 S.2.1 dX10_inboxMessage_11 rfl (lv_at hl 0 rfl) ?_
      obtain ⟨a4, e5, h⟩ := h
      refine mz_o0 e5 ?_
      obtain ⟨k6, h⟩ := h
      refine mz_geti S hG hM cf_5 fd_165 tw_115 dX10_inboxMessage_12 k6 ?_
      refine lv_icmp_lt (tgt := 28) S.1 S.2.1 dX10_inboxMessage_15 (by decide) (fun c7 => ?_) (fun c7 => ?_)
      · have h := h.1 c7
        refine mz_aload_n (x := ru2) S.1 S.2.1 dX10_inboxMessage_28 rfl (lv_at hl 0 rfl) ?_
        refine mz_o0 e5 ?_
        refine mz_getr S hG hM cf_5 fd_160 tw_103 dX10_inboxMessage_29 k6 ?_
        refine lv_iload_n S.1 S.2.1 dX10_inboxMessage_32 rfl (lv_at hl 3 rfl) ?_
        obtain ⟨a8, e9, h⟩ := h
        refine mz_o1 e9 ?_
        obtain ⟨k10, h⟩ := h
        obtain ⟨b11, h⟩ := h
        refine mz_iald S hG hM dX10_inboxMessage_33 k10 b11 ?_
        exact vx_ret (mz_iret S hr hlk hM hS rfl (Nat.le_of_ble_eq_true rfl) (Nat.le_of_ble_eq_true rfl) dX10_inboxMessage_34 ⟨_, rfl, rfl, h⟩)
      · have h := h.2 c7
        refine W.widen (k := 1) (n := 6) (by omega) (by omega) ?_
        exact hB18   H locs ls hM hS (lv_sub hl [1] rfl) h
set_option maxRecDepth 100000 in
set_option maxHeartbeats 4000000 in
theorem c_X10_remembers {l : Launch} {G : mgT} {μ : mmT} {o : Nat} {x1 : Int32} {x2 : Int32} {Q : Int32 → Prop} {X : String → Prop} (hl0 : l.stackTraces = false) (h : w_X10_remembers G μ o x1 x2 Q X) : MX G l yX10_remembers cX10_remembers 3 (some .boolean) { frames := 7, cells := 1, slots := 6, locals := 122 } [.ref o, .int x1, .int x2] μ (pI (fun r μ' => μ' = μ ∧ Q r)) (fun E μ' => μ' = μ ∧ X E) := by
  refine mz_MX (by decide +kernel) (Nat.le_of_ble_eq_true rfl) (fun p e s m args below meth c S hG hr hlk hnm hex => ?_)
  intro H locs ls hM hS hl
  have hl : lv_has ls 3 [(0, .ref o), (1, .int x1), (2, .int x2)] := hl
  unfold w_X10_remembers at h
  refine lv_aload_n S.1 S.2.1 dX10_remembers_0 rfl (lv_at hl 0 rfl) ?_
  refine lv_iload_n S.1 S.2.1 dX10_remembers_1 rfl (lv_at hl 1 rfl) ?_
  obtain ⟨k1, h⟩ := h
  refine mz_VX S hG hM hS cf_9 k1 (As := [.int x1]) (rest := []) (c_X10_existingNest hl0 h) yf_X10_existingNest tw_1130 tw_1132 ts_17 ⟨Nat.le_of_ble_eq_true rfl, Nat.le_of_ble_eq_true rfl⟩ ⟨(Nat.le_of_ble_eq_true rfl), (Nat.le_of_ble_eq_true rfl)⟩ rfl hl.1 rfl (Nat.le_of_ble_eq_true rfl) dX10_remembers_2 (fun E ce q9 μ9 H locs hp hM hS hc9 hv9 hcl9 => ?_) (fun v9 μ9 H locs hp hM hS => ?_)
  · obtain ⟨e9, h⟩ := hp
    rw [e9] at hM
    exact mz_out hex hlk hM hS hc9 hv9 hcl9 (Nat.le_of_ble_eq_true rfl) (Nat.le_of_ble_eq_true rfl) ⟨rfl, h⟩
  · obtain ⟨ru2, rfl, e9, h⟩ := hp
    rw [e9] at hM
    refine W.cs (cells' := 1) (slots' := 6) rfl rfl ?_
    refine lv_iload_n S.1 S.2.1 dX10_remembers_5 rfl (lv_at hl 2 rfl) ?_
    obtain ⟨a3, e4, h⟩ := h
    refine mz_o1 e4 ?_
    obtain ⟨k5, h⟩ := h
    refine mz_V S hG hM hS cf_5 k5 (As := [.int x2]) (rest := []) (c_X6_knows h) yf_X6_knows tw_1261 tw_584 tw_585 ⟨Nat.le_of_ble_eq_true rfl, Nat.le_of_ble_eq_true rfl⟩ ⟨(Nat.le_of_ble_eq_true rfl), (Nat.le_of_ble_eq_true rfl)⟩ rfl hl.1 rfl (Nat.le_of_ble_eq_true rfl) dX10_remembers_6 (fun v9 μ9 H locs hp hM hS => ?_)
    obtain ⟨u6, rfl, e9, h⟩ := hp
    rw [e9] at hM
    refine W.cs (cells' := 1) (slots' := 6) rfl rfl ?_
    obtain ⟨f7, h⟩ := h
    exact vx_ret (mz_iret S hr hlk hM hS (mz_nZ f7) (Nat.le_of_ble_eq_true rfl) (Nat.le_of_ble_eq_true rfl) dX10_remembers_9 ⟨_, rfl, rfl, h⟩)
set_option maxRecDepth 100000 in
set_option maxHeartbeats 4000000 in
theorem c_X10_rememberedCount {l : Launch} {G : mgT} {μ : mmT} {o : Nat} {x1 : Int32} {Q : Int32 → Prop} {X : String → Prop} (hl0 : l.stackTraces = false) (h : w_X10_rememberedCount G μ o x1 Q X) : MX G l yX10_rememberedCount cX10_rememberedCount 2 (some .int) { frames := 7, cells := 1, slots := 6, locals := 122 } [.ref o, .int x1] μ (pI (fun r μ' => μ' = μ ∧ Q r)) (fun E μ' => μ' = μ ∧ X E) := by
  refine mz_MX (by decide +kernel) (Nat.le_of_ble_eq_true rfl) (fun p e s m args below meth c S hG hr hlk hnm hex => ?_)
  intro H locs ls hM hS hl
  have hl : lv_has ls 2 [(0, .ref o), (1, .int x1)] := hl
  unfold w_X10_rememberedCount at h
  refine lv_aload_n S.1 S.2.1 dX10_rememberedCount_0 rfl (lv_at hl 0 rfl) ?_
  refine lv_iload_n S.1 S.2.1 dX10_rememberedCount_1 rfl (lv_at hl 1 rfl) ?_
  obtain ⟨k1, h⟩ := h
  refine mz_VX S hG hM hS cf_9 k1 (As := [.int x1]) (rest := []) (c_X10_existingNest hl0 h) yf_X10_existingNest tw_1130 tw_1132 ts_17 ⟨Nat.le_of_ble_eq_true rfl, Nat.le_of_ble_eq_true rfl⟩ ⟨(Nat.le_of_ble_eq_true rfl), (Nat.le_of_ble_eq_true rfl)⟩ rfl hl.1 rfl (Nat.le_of_ble_eq_true rfl) dX10_rememberedCount_2 (fun E ce q9 μ9 H locs hp hM hS hc9 hv9 hcl9 => ?_) (fun v9 μ9 H locs hp hM hS => ?_)
  · obtain ⟨e9, h⟩ := hp
    rw [e9] at hM
    exact mz_out hex hlk hM hS hc9 hv9 hcl9 (Nat.le_of_ble_eq_true rfl) (Nat.le_of_ble_eq_true rfl) ⟨rfl, h⟩
  · obtain ⟨ru2, rfl, e9, h⟩ := hp
    rw [e9] at hM
    refine W.cs (cells' := 1) (slots' := 6) rfl rfl ?_
    obtain ⟨a3, e4, h⟩ := h
    refine mz_o0 e4 ?_
    obtain ⟨k5, h⟩ := h
    refine mz_geti S hG hM cf_5 fd_166 tw_118 dX10_rememberedCount_5 k5 ?_
    exact vx_ret (mz_iret S hr hlk hM hS rfl (Nat.le_of_ble_eq_true rfl) (Nat.le_of_ble_eq_true rfl) dX10_rememberedCount_8 ⟨_, rfl, rfl, h⟩)
set_option maxRecDepth 100000 in
set_option maxHeartbeats 4000000 in
theorem c_X10_nestByDeliveries {l : Launch} {G : mgT} {μ : mmT} {o : Nat} {x1 : Int32} {Q : Int32 → Prop} {X : String → Prop} (hl0 : l.stackTraces = false) (h : w_X10_nestByDeliveries G μ o x1 Q X) : MX G l yX10_nestByDeliveries cX10_nestByDeliveries 3 (some .int) { frames := 6, cells := 1, slots := 6, locals := 100 } [.ref o, .int x1] μ (pI (fun r μ' => μ' = μ ∧ Q r)) (fun E μ' => μ' = μ ∧ X E) := by
  refine mz_MX (by decide +kernel) (Nat.le_of_ble_eq_true rfl) (fun p e s m args below meth c S hG hr hlk hnm hex => ?_)
  intro H locs ls hM hS hl
  have hl : lv_has ls 3 [(0, .ref o), (1, .int x1)] := hl
  unfold w_X10_nestByDeliveries at h
  refine lv_aload_n S.1 S.2.1 dX10_nestByDeliveries_0 rfl (lv_at hl 0 rfl) ?_
  obtain ⟨k1, h⟩ := h
  refine mz_getr S hG hM cf_9 fd_288 tw_343 dX10_nestByDeliveries_1 k1 ?_
  refine lv_iload_n S.1 S.2.1 dX10_nestByDeliveries_4 rfl (lv_at hl 1 rfl) ?_
  obtain ⟨a2, e3, h⟩ := h
  refine mz_o1 e3 ?_
  obtain ⟨k4, h⟩ := h
  refine mz_V S hG hM hS cf_7 k4 (As := [.int x1]) (rest := []) (c_X8_nestAtRank h) yf_X8_nestAtRank tw_1269 tw_1270 tw_1271 ⟨Nat.le_of_ble_eq_true rfl, Nat.le_of_ble_eq_true rfl⟩ ⟨(Nat.le_of_ble_eq_true rfl), (Nat.le_of_ble_eq_true rfl)⟩ rfl hl.1 rfl (Nat.le_of_ble_eq_true rfl) dX10_nestByDeliveries_5 (fun v9 μ9 H locs hp hM hS => ?_)
  obtain ⟨u5, rfl, e9, h⟩ := hp
  rw [e9] at hM
  refine W.cs (cells' := 0) (slots' := 0) rfl rfl ?_
  refine lv_istore_n (lv' := [(2, .int u5), (0, .ref o), (1, .int x1)]) S.1 S.2.1 dX10_nestByDeliveries_8 rfl hl (by decide) rfl (fun ls hl => ?_)
  refine lv_iload_n S.1 S.2.1 dX10_nestByDeliveries_9 rfl (lv_at hl 0 rfl) ?_
  refine lv_iconst (v := (-1)) S.1 S.2.1 dX10_nestByDeliveries_10 (by decide) ?_
  refine lv_icmp_ne (tgt := 24) S.1 S.2.1 dX10_nestByDeliveries_11 (by decide) (fun c6 => ?_) (fun c6 => ?_)
  · have h := h.1 c6
    refine lv_iload_n S.1 S.2.1 dX10_nestByDeliveries_24 rfl (lv_at hl 0 rfl) ?_
    exact vx_ret (mz_iret S hr hlk hM hS rfl (Nat.le_of_ble_eq_true rfl) (Nat.le_of_ble_eq_true rfl) dX10_nestByDeliveries_25 ⟨_, rfl, rfl, h⟩)
  · have h := h.2 c6
    exact mz_throwN S hl0 hG hM hS hex hlk hl.1 xf_108_112 (j := 21) rfl dX10_nestByDeliveries_14 dX10_nestByDeliveries_17 dX10_nestByDeliveries_18 dX10_nestByDeliveries_20 dX10_nestByDeliveries_23 (Nat.le_of_ble_eq_true rfl) (Nat.le_of_ble_eq_true rfl) (Nat.le_of_ble_eq_true rfl) (Nat.le_of_ble_eq_true rfl) (Nat.le_of_ble_eq_true rfl) (Nat.le_of_ble_eq_true rfl) ⟨rfl, h⟩
set_option maxRecDepth 100000 in
set_option maxHeartbeats 4000000 in
theorem c_X10_crowCount {l : Launch} {G : mgT} {μ : mmT} {o : Nat} {Q : Int32 → Prop} (h : w_X10_crowCount G μ o Q) : MC G l yX10_crowCount cX10_crowCount 1 (some .int) { frames := 0, cells := 0, slots := 0, locals := 0 } [.ref o] μ (pI (fun r μ' => μ' = μ ∧ Q r)) := by
  refine mz_MC (by decide +kernel) (Nat.le_of_ble_eq_true rfl) (fun p e s m args below meth c S hG hr hlk hnm => ?_)
  intro H locs ls hM hS hl
  have hl : lv_has ls 1 [(0, .ref o)] := hl
  unfold w_X10_crowCount at h
  refine lv_aload_n S.1 S.2.1 dX10_crowCount_0 rfl (lv_at hl 0 rfl) ?_
  obtain ⟨k1, h⟩ := h
  refine mz_getr S hG hM cf_9 fd_288 tw_343 dX10_crowCount_1 k1 ?_
  obtain ⟨a2, e3, h⟩ := h
  refine mz_o0 e3 ?_
  obtain ⟨k4, h⟩ := h
  refine mz_geti S hG hM cf_7 fd_229 tw_201 dX10_crowCount_4 k4 ?_
  exact mz_iret S hr hlk hM hS rfl (Nat.le_of_ble_eq_true rfl) (Nat.le_of_ble_eq_true rfl) dX10_crowCount_7 ⟨_, rfl, rfl, h⟩
set_option maxRecDepth 100000 in
set_option maxHeartbeats 4000000 in
theorem c_X10_existingCrow {l : Launch} {G : mgT} {μ : mmT} {o : Nat} {x1 : Int32} {Q : Option Nat → Prop} {X : String → Prop} (hl0 : l.stackTraces = false) (h : w_X10_existingCrow G μ o x1 Q X) : MX G l yX10_existingCrow cX10_existingCrow 3 (some (.object "CrowMail$Crow")) { frames := 6, cells := 1, slots := 6, locals := 100 } [.ref o, .int x1] μ (pR (fun r μ' => μ' = μ ∧ Q r)) (fun E μ' => μ' = μ ∧ X E) := by
  refine mz_MX (by decide +kernel) (Nat.le_of_ble_eq_true rfl) (fun p e s m args below meth c S hG hr hlk hnm hex => ?_)
  intro H locs ls hM hS hl
  have hl : lv_has ls 3 [(0, .ref o), (1, .int x1)] := hl
  unfold w_X10_existingCrow at h
  refine lv_aload_n S.1 S.2.1 dX10_existingCrow_0 rfl (lv_at hl 0 rfl) ?_
  obtain ⟨k1, h⟩ := h
  refine mz_getr S hG hM cf_9 fd_288 tw_343 dX10_existingCrow_1 k1 ?_
  refine lv_iload_n S.1 S.2.1 dX10_existingCrow_4 rfl (lv_at hl 1 rfl) ?_
  obtain ⟨a2, e3, h⟩ := h
  refine mz_o1 e3 ?_
  obtain ⟨k4, h⟩ := h
  refine mz_V S hG hM hS cf_7 k4 (As := [.int x1]) (rest := []) (c_X8_crowAt h) yf_X8_crowAt tw_1178 tw_1179 tw_1180 ⟨Nat.le_of_ble_eq_true rfl, Nat.le_of_ble_eq_true rfl⟩ ⟨(Nat.le_of_ble_eq_true rfl), (Nat.le_of_ble_eq_true rfl)⟩ rfl hl.1 rfl (Nat.le_of_ble_eq_true rfl) dX10_existingCrow_5 (fun v9 μ9 H locs hp hM hS => ?_)
  obtain ⟨ru5, rfl, e9, h⟩ := hp
  rw [e9] at hM
  refine W.cs (cells' := 0) (slots' := 0) rfl rfl ?_
  refine mz_astore_n (x := ru5) (lv' := [(2, va_rf ru5), (0, .ref o), (1, .int x1)]) S.1 S.2.1 dX10_existingCrow_8 rfl hl (by decide) rfl (fun ls hl => ?_)
  refine mz_aload_n (x := ru5) S.1 S.2.1 dX10_existingCrow_9 rfl (lv_at hl 0 rfl) ?_
  refine mz_ifnonnull (tgt := 23) S.1 S.2.1 dX10_existingCrow_10 (by decide) (fun a6 e7 => ?_) (fun e7 => ?_)
  · have h := h.2 a6 e7
    refine mz_aload_n (x := ru5) S.1 S.2.1 dX10_existingCrow_23 rfl (lv_at hl 0 rfl) ?_
    exact vx_ret (mz_aret (x := ru5) S hr (by first | exact Or.inl ⟨_, rfl⟩ | exact Or.inr ⟨_, rfl⟩) hlk hM hS (Nat.le_of_ble_eq_true rfl) (Nat.le_of_ble_eq_true rfl) dX10_existingCrow_24 ⟨_, rfl, rfl, h⟩)
  · have h := h.1 e7
    exact mz_throw S hl0 hG hM hS hex hlk hl.1 xf_103_107 (j := 19) rfl dX10_existingCrow_13 dX10_existingCrow_16 dX10_existingCrow_17 dX10_existingCrow_19 dX10_existingCrow_22 (Nat.le_of_ble_eq_true rfl) (Nat.le_of_ble_eq_true rfl) (Nat.le_of_ble_eq_true rfl) (Nat.le_of_ble_eq_true rfl) (Nat.le_of_ble_eq_true rfl) (Nat.le_of_ble_eq_true rfl) ⟨rfl, h⟩
set_option maxRecDepth 100000 in
set_option maxHeartbeats 4000000 in
theorem c_X10_isFlying {l : Launch} {G : mgT} {μ : mmT} {o : Nat} {x1 : Int32} {Q : Int32 → Prop} {X : String → Prop} (hl0 : l.stackTraces = false) (h : w_X10_isFlying G μ o x1 Q X) : MX G l yX10_isFlying cX10_isFlying 2 (some .boolean) { frames := 7, cells := 1, slots := 6, locals := 122 } [.ref o, .int x1] μ (pI (fun r μ' => μ' = μ ∧ Q r)) (fun E μ' => μ' = μ ∧ X E) := by
  refine mz_MX (by decide +kernel) (Nat.le_of_ble_eq_true rfl) (fun p e s m args below meth c S hG hr hlk hnm hex => ?_)
  intro H locs ls hM hS hl
  have hl : lv_has ls 2 [(0, .ref o), (1, .int x1)] := hl
  unfold w_X10_isFlying at h
  refine lv_aload_n S.1 S.2.1 dX10_isFlying_0 rfl (lv_at hl 0 rfl) ?_
  refine lv_iload_n S.1 S.2.1 dX10_isFlying_1 rfl (lv_at hl 1 rfl) ?_
  obtain ⟨k1, h⟩ := h
  refine mz_VX S hG hM hS cf_9 k1 (As := [.int x1]) (rest := []) (c_X10_existingCrow hl0 h) yf_X10_existingCrow tw_1174 tw_1176 ts_18 ⟨Nat.le_of_ble_eq_true rfl, Nat.le_of_ble_eq_true rfl⟩ ⟨(Nat.le_of_ble_eq_true rfl), (Nat.le_of_ble_eq_true rfl)⟩ rfl hl.1 rfl (Nat.le_of_ble_eq_true rfl) dX10_isFlying_2 (fun E ce q9 μ9 H locs hp hM hS hc9 hv9 hcl9 => ?_) (fun v9 μ9 H locs hp hM hS => ?_)
  · obtain ⟨e9, h⟩ := hp
    rw [e9] at hM
    exact mz_out hex hlk hM hS hc9 hv9 hcl9 (Nat.le_of_ble_eq_true rfl) (Nat.le_of_ble_eq_true rfl) ⟨rfl, h⟩
  · obtain ⟨ru2, rfl, e9, h⟩ := hp
    rw [e9] at hM
    refine W.cs (cells' := 1) (slots' := 6) rfl rfl ?_
    obtain ⟨a3, e4, h⟩ := h
    refine mz_o0 e4 ?_
    obtain ⟨k5, h⟩ := h
    refine mz_geti S hG hM cf_2 fd_64 tw_142 dX10_isFlying_5 k5 ?_
    obtain ⟨f6, h⟩ := h
    exact vx_ret (mz_iret S hr hlk hM hS (mz_nZ f6) (Nat.le_of_ble_eq_true rfl) (Nat.le_of_ble_eq_true rfl) dX10_isFlying_8 ⟨_, rfl, rfl, h⟩)
set_option maxRecDepth 100000 in
set_option maxHeartbeats 4000000 in
theorem c_X10_carriedMessage {l : Launch} {G : mgT} {μ : mmT} {o : Nat} {x1 : Int32} {Q : Int32 → Prop} {X : String → Prop} (hl0 : l.stackTraces = false) (h : w_X10_carriedMessage G μ o x1 Q X) : MX G l yX10_carriedMessage cX10_carriedMessage 3 (some .int) { frames := 7, cells := 2, slots := 12, locals := 122 } [.ref o, .int x1] μ (pI (fun r μ' => μ' = μ ∧ Q r)) (fun E μ' => μ' = μ ∧ X E) := by
  refine mz_MX (by decide +kernel) (Nat.le_of_ble_eq_true rfl) (fun p e s m args below meth c S hG hr hlk hnm hex => ?_)
  intro H locs ls hM hS hl
  have hl : lv_has ls 3 [(0, .ref o), (1, .int x1)] := hl
  unfold w_X10_carriedMessage at h
  refine lv_aload_n S.1 S.2.1 dX10_carriedMessage_0 rfl (lv_at hl 0 rfl) ?_
  refine lv_iload_n S.1 S.2.1 dX10_carriedMessage_1 rfl (lv_at hl 1 rfl) ?_
  obtain ⟨k1, h⟩ := h
  refine mz_VX S hG hM hS cf_9 k1 (As := [.int x1]) (rest := []) (c_X10_existingCrow hl0 h) yf_X10_existingCrow tw_1174 tw_1176 ts_18 ⟨Nat.le_of_ble_eq_true rfl, Nat.le_of_ble_eq_true rfl⟩ ⟨(Nat.le_of_ble_eq_true rfl), (Nat.le_of_ble_eq_true rfl)⟩ rfl hl.1 rfl (Nat.le_of_ble_eq_true rfl) dX10_carriedMessage_2 (fun E ce q9 μ9 H locs hp hM hS hc9 hv9 hcl9 => ?_) (fun v9 μ9 H locs hp hM hS => ?_)
  · obtain ⟨e9, h⟩ := hp
    rw [e9] at hM
    exact mz_out hex hlk hM hS hc9 hv9 hcl9 (Nat.le_of_ble_eq_true rfl) (Nat.le_of_ble_eq_true rfl) ⟨rfl, h⟩
  · obtain ⟨ru2, rfl, e9, h⟩ := hp
    rw [e9] at hM
    refine W.cs (cells' := 1) (slots' := 6) rfl rfl ?_
    refine mz_astore_n (x := ru2) (lv' := [(2, va_rf ru2), (0, .ref o), (1, .int x1)]) S.1 S.2.1 dX10_carriedMessage_5 rfl hl (by decide) rfl (fun ls hl => ?_)
    refine mz_aload_n (x := ru2) S.1 S.2.1 dX10_carriedMessage_6 rfl (lv_at hl 0 rfl) ?_
    obtain ⟨a3, e4, h⟩ := h
    refine mz_o0 e4 ?_
    obtain ⟨k5, h⟩ := h
    refine mz_geti S hG hM cf_2 fd_64 tw_142 dX10_carriedMessage_7 k5 ?_
    refine lv_if_ne (tgt := 23) S.1 S.2.1 dX10_carriedMessage_10 (by decide) (fun c6 => ?_) (fun c6 => ?_)
    · have h := h.1 c6
      refine mz_aload_n (x := ru2) S.1 S.2.1 dX10_carriedMessage_23 rfl (lv_at hl 0 rfl) ?_
      refine mz_o0 e4 ?_
      refine mz_geti S hG hM cf_2 fd_65 tw_145 dX10_carriedMessage_24 k5 ?_
      exact vx_ret (mz_iret S hr hlk hM hS rfl (Nat.le_of_ble_eq_true rfl) (Nat.le_of_ble_eq_true rfl) dX10_carriedMessage_27 ⟨_, rfl, rfl, h⟩)
    · have h := h.2 c6
      exact mz_throwN S hl0 hG hM hS hex hlk hl.1 xf_108_112 (j := 20) rfl dX10_carriedMessage_13 dX10_carriedMessage_16 dX10_carriedMessage_17 dX10_carriedMessage_19 dX10_carriedMessage_22 (Nat.le_of_ble_eq_true rfl) (Nat.le_of_ble_eq_true rfl) (Nat.le_of_ble_eq_true rfl) (Nat.le_of_ble_eq_true rfl) (Nat.le_of_ble_eq_true rfl) (Nat.le_of_ble_eq_true rfl) ⟨rfl, h⟩
set_option maxRecDepth 100000 in
set_option maxHeartbeats 4000000 in
theorem c_X10_flightMinutes {l : Launch} {G : mgT} {μ : mmT} {o : Nat} {x1 : Int32} {Q : Int32 → Prop} {X : String → Prop} (hl0 : l.stackTraces = false) (h : w_X10_flightMinutes G μ o x1 Q X) : MX G l yX10_flightMinutes cX10_flightMinutes 3 (some .int) { frames := 7, cells := 1, slots := 6, locals := 122 } [.ref o, .int x1] μ (pI (fun r μ' => μ' = μ ∧ Q r)) (fun E μ' => μ' = μ ∧ X E) := by
  refine mz_MX (by decide +kernel) (Nat.le_of_ble_eq_true rfl) (fun p e s m args below meth c S hG hr hlk hnm hex => ?_)
  have hB29 : ∀ (s0 : Int32) (H : Heap) (locs : List Loc) (ls : Array Slot), Mm G μ H → va_S (Ah G) s.heap H locs → lv_has ls 3 [(0, .ref o)] → w_X10_flightMinutes_b29 G μ o Q X  s0 → W p l e { frames := 7, cells := 1, slots := 6, locals := 122 } s m args below meth c H locs (1) (6) (vx_MQ below (mQ G (pI (fun r μ' => μ' = μ ∧ Q r))) (mX G (fun E μ' => μ' = μ ∧ X E)) args s 1 6 (Ah G)) (F0 m 29 ls [.int s0]) := by
    intro  s0 H locs ls hM hS hl h
    unfold w_X10_flightMinutes_b29 at h
    exact vx_ret (mz_iret S hr hlk hM hS rfl (Nat.le_of_ble_eq_true rfl) (Nat.le_of_ble_eq_true rfl) dX10_flightMinutes_29 ⟨_, rfl, rfl, h⟩)
  intro H locs ls hM hS hl
  have hl : lv_has ls 3 [(0, .ref o), (1, .int x1)] := hl
  unfold w_X10_flightMinutes at h
  refine lv_aload_n S.1 S.2.1 dX10_flightMinutes_0 rfl (lv_at hl 0 rfl) ?_
  refine lv_iload_n S.1 S.2.1 dX10_flightMinutes_1 rfl (lv_at hl 1 rfl) ?_
  obtain ⟨k1, h⟩ := h
  refine mz_VX S hG hM hS cf_9 k1 (As := [.int x1]) (rest := []) (c_X10_existingCrow hl0 h) yf_X10_existingCrow tw_1174 tw_1176 ts_18 ⟨Nat.le_of_ble_eq_true rfl, Nat.le_of_ble_eq_true rfl⟩ ⟨(Nat.le_of_ble_eq_true rfl), (Nat.le_of_ble_eq_true rfl)⟩ rfl hl.1 rfl (Nat.le_of_ble_eq_true rfl) dX10_flightMinutes_2 (fun E ce q9 μ9 H locs hp hM hS hc9 hv9 hcl9 => ?_) (fun v9 μ9 H locs hp hM hS => ?_)
  · obtain ⟨e9, h⟩ := hp
    rw [e9] at hM
    exact mz_out hex hlk hM hS hc9 hv9 hcl9 (Nat.le_of_ble_eq_true rfl) (Nat.le_of_ble_eq_true rfl) ⟨rfl, h⟩
  · obtain ⟨ru2, rfl, e9, h⟩ := hp
    rw [e9] at hM
    refine W.cs (cells' := 1) (slots' := 6) rfl rfl ?_
    refine mz_astore_n (x := ru2) (lv' := [(2, va_rf ru2), (0, .ref o), (1, .int x1)]) S.1 S.2.1 dX10_flightMinutes_5 rfl hl (by decide) rfl (fun ls hl => ?_)
    refine mz_aload_n (x := ru2) S.1 S.2.1 dX10_flightMinutes_6 rfl (lv_at hl 0 rfl) ?_
    obtain ⟨a3, e4, h⟩ := h
    refine mz_o0 e4 ?_
    obtain ⟨k5, h⟩ := h
    refine mz_geti S hG hM cf_2 fd_64 tw_142 dX10_flightMinutes_7 k5 ?_
    refine lv_if_eq (tgt := 28) S.1 S.2.1 dX10_flightMinutes_10 (by decide) (fun c6 => ?_) (fun c6 => ?_)
    · have h := h.1 c6
      refine lv_iconst (v := (nI 0)) S.1 S.2.1 dX10_flightMinutes_28 (by decide) ?_
      refine W.widen (k := 1) (n := 6) (by omega) (by omega) ?_
      exact hB29  (nI 0) H locs ls hM hS (lv_sub hl [1] rfl) h
    · have h := h.2 c6
      refine mz_aload_n (x := ru2) S.1 S.2.1 dX10_flightMinutes_13 rfl (lv_at hl 0 rfl) ?_
      refine mz_o0 e4 ?_
      refine mz_geti S hG hM cf_2 fd_66 tw_148 dX10_flightMinutes_14 k5 ?_
      refine lv_aload_n S.1 S.2.1 dX10_flightMinutes_17 rfl (lv_at hl 1 rfl) ?_
      refine mz_getr S hG hM cf_9 fd_288 tw_343 dX10_flightMinutes_18 k1 ?_
      obtain ⟨a7, e8, h⟩ := h
      refine mz_o0 e8 ?_
      obtain ⟨k9, h⟩ := h
      refine mz_geti S hG hM cf_7 fd_231 tw_205 dX10_flightMinutes_21 k9 ?_
      refine lv_isub S.1 S.2.1 dX10_flightMinutes_24 ?_
      refine lv_goto (tgt := 29) S.1 S.2.1 dX10_flightMinutes_25 (by decide) ?_
      refine W.widen (k := 1) (n := 6) (by omega) (by omega) ?_
      exact hB29  ((mI μ 66 a3) - (mI μ 231 a7)) H locs ls hM hS (lv_sub hl [1] rfl) h
set_option maxRecDepth 100000 in
set_option maxHeartbeats 4000000 in
theorem c_X10_messageCount {l : Launch} {G : mgT} {μ : mmT} {o : Nat} {Q : Int32 → Prop} (h : w_X10_messageCount G μ o Q) : MC G l yX10_messageCount cX10_messageCount 1 (some .int) { frames := 0, cells := 0, slots := 0, locals := 0 } [.ref o] μ (pI (fun r μ' => μ' = μ ∧ Q r)) := by
  refine mz_MC (by decide +kernel) (Nat.le_of_ble_eq_true rfl) (fun p e s m args below meth c S hG hr hlk hnm => ?_)
  intro H locs ls hM hS hl
  have hl : lv_has ls 1 [(0, .ref o)] := hl
  unfold w_X10_messageCount at h
  refine lv_aload_n S.1 S.2.1 dX10_messageCount_0 rfl (lv_at hl 0 rfl) ?_
  obtain ⟨k1, h⟩ := h
  refine mz_getr S hG hM cf_9 fd_288 tw_343 dX10_messageCount_1 k1 ?_
  obtain ⟨a2, e3, h⟩ := h
  refine mz_o0 e3 ?_
  obtain ⟨k4, h⟩ := h
  refine mz_geti S hG hM cf_7 fd_230 tw_203 dX10_messageCount_4 k4 ?_
  exact mz_iret S hr hlk hM hS rfl (Nat.le_of_ble_eq_true rfl) (Nat.le_of_ble_eq_true rfl) dX10_messageCount_7 ⟨_, rfl, rfl, h⟩
set_option maxRecDepth 100000 in
set_option maxHeartbeats 4000000 in
theorem c_X10_messageAt {l : Launch} {G : mgT} {μ : mmT} {o : Nat} {x1 : Int32} {Q : Int32 → Prop} {X : String → Prop} (hl0 : l.stackTraces = false) (h : w_X10_messageAt G μ o x1 Q X) : MX G l yX10_messageAt cX10_messageAt 2 (some .int) { frames := 6, cells := 1, slots := 6, locals := 100 } [.ref o, .int x1] μ (pI (fun r μ' => μ' = μ ∧ Q r)) (fun E μ' => μ' = μ ∧ X E) := by
  refine mz_MX (by decide +kernel) (Nat.le_of_ble_eq_true rfl) (fun p e s m args below meth c S hG hr hlk hnm hex => ?_)
  have hB15 : ∀  (H : Heap) (locs : List Loc) (ls : Array Slot), Mm G μ H → va_S (Ah G) s.heap H locs → lv_has ls 2 [(0, .ref o)] → w_X10_messageAt_b15 G μ o Q X   → W p l e { frames := 6, cells := 1, slots := 6, locals := 100 } s m args below meth c H locs (0) (0) (vx_MQ below (mQ G (pI (fun r μ' => μ' = μ ∧ Q r))) (mX G (fun E μ' => μ' = μ ∧ X E)) args s 1 6 (Ah G)) (F0 m 15 ls []) := by
    intro   H locs ls hM hS hl h
    unfold w_X10_messageAt_b15 at h
    exact mz_throwN S hl0 hG hM hS hex hlk hl.1 xf_108_112 (j := 0) rfl dX10_messageAt_15 dX10_messageAt_18 dX10_messageAt_19 dX10_messageAt_21 dX10_messageAt_24 (Nat.le_of_ble_eq_true rfl) (Nat.le_of_ble_eq_true rfl) (Nat.le_of_ble_eq_true rfl) (Nat.le_of_ble_eq_true rfl) (Nat.le_of_ble_eq_true rfl) (Nat.le_of_ble_eq_true rfl) ⟨rfl, h⟩
  intro H locs ls hM hS hl
  have hl : lv_has ls 2 [(0, .ref o), (1, .int x1)] := hl
  unfold w_X10_messageAt at h
  refine lv_iload_n S.1 S.2.1 dX10_messageAt_0 rfl (lv_at hl 1 rfl) ?_
  refine lv_if_lt (tgt := 15) S.1 S.2.1 dX10_messageAt_1 (by decide) (fun c1 => ?_) (fun c1 => ?_)
  · have h := h.1 c1
    exact hB15   H locs ls hM hS (lv_sub hl [0] rfl) h
  · have h := h.2 c1
    refine lv_iload_n S.1 S.2.1 dX10_messageAt_4 rfl (lv_at hl 1 rfl) ?_
    refine lv_aload_n S.1 S.2.1 dX10_messageAt_5 rfl (lv_at hl 0 rfl) ?_
    obtain ⟨k2, h⟩ := h
    refine mz_getr S hG hM cf_9 fd_288 tw_343 dX10_messageAt_6 k2 ?_
    obtain ⟨a3, e4, h⟩ := h
    refine mz_o0 e4 ?_
    obtain ⟨k5, h⟩ := h
    refine mz_geti S hG hM cf_7 fd_230 tw_203 dX10_messageAt_9 k5 ?_
    refine lv_icmp_lt (tgt := 25) S.1 S.2.1 dX10_messageAt_12 (by decide) (fun c6 => ?_) (fun c6 => ?_)
    · have h := h.1 c6
      refine lv_aload_n S.1 S.2.1 dX10_messageAt_25 rfl (lv_at hl 0 rfl) ?_
      refine mz_getr S hG hM cf_9 fd_288 tw_343 dX10_messageAt_26 k2 ?_
      refine mz_o0 e4 ?_
      refine mz_getr S hG hM cf_7 fd_226 tw_195 dX10_messageAt_29 k5 ?_
      refine lv_iload_n S.1 S.2.1 dX10_messageAt_32 rfl (lv_at hl 1 rfl) ?_
      obtain ⟨a7, e8, h⟩ := h
      refine mz_o1 e8 ?_
      obtain ⟨k9, h⟩ := h
      obtain ⟨b10, h⟩ := h
      refine mz_aald (j := 7) S hG hM dX10_messageAt_33 (by decide) rfl k9 b10 ?_
      obtain ⟨a11, e12, h⟩ := h
      refine mz_o0 e12 ?_
      obtain ⟨k13, h⟩ := h
      refine mz_geti S hG hM cf_4 fd_128 tw_163 dX10_messageAt_34 k13 ?_
      exact vx_ret (mz_iret S hr hlk hM hS rfl (Nat.le_of_ble_eq_true rfl) (Nat.le_of_ble_eq_true rfl) dX10_messageAt_37 ⟨_, rfl, rfl, h⟩)
    · have h := h.2 c6
      exact hB15   H locs ls hM hS (lv_sub hl [0] rfl) h
set_option maxRecDepth 100000 in
set_option maxHeartbeats 4000000 in
theorem c_X10_existingMessage {l : Launch} {G : mgT} {μ : mmT} {o : Nat} {x1 : Int32} {Q : Option Nat → Prop} {X : String → Prop} (hl0 : l.stackTraces = false) (h : w_X10_existingMessage G μ o x1 Q X) : MX G l yX10_existingMessage cX10_existingMessage 3 (some (.object "CrowMail$Message")) { frames := 6, cells := 1, slots := 6, locals := 100 } [.ref o, .int x1] μ (pR (fun r μ' => μ' = μ ∧ Q r)) (fun E μ' => μ' = μ ∧ X E) := by
  refine mz_MX (by decide +kernel) (Nat.le_of_ble_eq_true rfl) (fun p e s m args below meth c S hG hr hlk hnm hex => ?_)
  intro H locs ls hM hS hl
  have hl : lv_has ls 3 [(0, .ref o), (1, .int x1)] := hl
  unfold w_X10_existingMessage at h
  refine lv_aload_n S.1 S.2.1 dX10_existingMessage_0 rfl (lv_at hl 0 rfl) ?_
  obtain ⟨k1, h⟩ := h
  refine mz_getr S hG hM cf_9 fd_288 tw_343 dX10_existingMessage_1 k1 ?_
  refine lv_iload_n S.1 S.2.1 dX10_existingMessage_4 rfl (lv_at hl 1 rfl) ?_
  obtain ⟨a2, e3, h⟩ := h
  refine mz_o1 e3 ?_
  obtain ⟨k4, h⟩ := h
  refine mz_V S hG hM hS cf_7 k4 (As := [.int x1]) (rest := []) (c_X8_messageWith h) yf_X8_messageWith tw_494 tw_495 tw_496 ⟨Nat.le_of_ble_eq_true rfl, Nat.le_of_ble_eq_true rfl⟩ ⟨(Nat.le_of_ble_eq_true rfl), (Nat.le_of_ble_eq_true rfl)⟩ rfl hl.1 rfl (Nat.le_of_ble_eq_true rfl) dX10_existingMessage_5 (fun v9 μ9 H locs hp hM hS => ?_)
  obtain ⟨ru5, rfl, e9, h⟩ := hp
  rw [e9] at hM
  refine W.cs (cells' := 0) (slots' := 0) rfl rfl ?_
  refine mz_astore_n (x := ru5) (lv' := [(2, va_rf ru5), (0, .ref o), (1, .int x1)]) S.1 S.2.1 dX10_existingMessage_8 rfl hl (by decide) rfl (fun ls hl => ?_)
  refine mz_aload_n (x := ru5) S.1 S.2.1 dX10_existingMessage_9 rfl (lv_at hl 0 rfl) ?_
  refine mz_ifnonnull (tgt := 23) S.1 S.2.1 dX10_existingMessage_10 (by decide) (fun a6 e7 => ?_) (fun e7 => ?_)
  · have h := h.2 a6 e7
    refine mz_aload_n (x := ru5) S.1 S.2.1 dX10_existingMessage_23 rfl (lv_at hl 0 rfl) ?_
    exact vx_ret (mz_aret (x := ru5) S hr (by first | exact Or.inl ⟨_, rfl⟩ | exact Or.inr ⟨_, rfl⟩) hlk hM hS (Nat.le_of_ble_eq_true rfl) (Nat.le_of_ble_eq_true rfl) dX10_existingMessage_24 ⟨_, rfl, rfl, h⟩)
  · have h := h.1 e7
    exact mz_throwN S hl0 hG hM hS hex hlk hl.1 xf_108_112 (j := 1) rfl dX10_existingMessage_13 dX10_existingMessage_16 dX10_existingMessage_17 dX10_existingMessage_19 dX10_existingMessage_22 (Nat.le_of_ble_eq_true rfl) (Nat.le_of_ble_eq_true rfl) (Nat.le_of_ble_eq_true rfl) (Nat.le_of_ble_eq_true rfl) (Nat.le_of_ble_eq_true rfl) (Nat.le_of_ble_eq_true rfl) ⟨rfl, h⟩
set_option maxRecDepth 100000 in
set_option maxHeartbeats 4000000 in
theorem c_X10_nestOf {l : Launch} {G : mgT} {μ : mmT} {o : Nat} {x1 : Int32} {Q : Int32 → Prop} {X : String → Prop} (hl0 : l.stackTraces = false) (h : w_X10_nestOf G μ o x1 Q X) : MX G l yX10_nestOf cX10_nestOf 2 (some .int) { frames := 7, cells := 1, slots := 6, locals := 122 } [.ref o, .int x1] μ (pI (fun r μ' => μ' = μ ∧ Q r)) (fun E μ' => μ' = μ ∧ X E) := by
  refine mz_MX (by decide +kernel) (Nat.le_of_ble_eq_true rfl) (fun p e s m args below meth c S hG hr hlk hnm hex => ?_)
  intro H locs ls hM hS hl
  have hl : lv_has ls 2 [(0, .ref o), (1, .int x1)] := hl
  unfold w_X10_nestOf at h
  refine lv_aload_n S.1 S.2.1 dX10_nestOf_0 rfl (lv_at hl 0 rfl) ?_
  refine lv_iload_n S.1 S.2.1 dX10_nestOf_1 rfl (lv_at hl 1 rfl) ?_
  obtain ⟨k1, h⟩ := h
  refine mz_VX S hG hM hS cf_9 k1 (As := [.int x1]) (rest := []) (c_X10_existingMessage hl0 h) yf_X10_existingMessage tw_490 tw_492 ts_1 ⟨Nat.le_of_ble_eq_true rfl, Nat.le_of_ble_eq_true rfl⟩ ⟨(Nat.le_of_ble_eq_true rfl), (Nat.le_of_ble_eq_true rfl)⟩ rfl hl.1 rfl (Nat.le_of_ble_eq_true rfl) dX10_nestOf_2 (fun E ce q9 μ9 H locs hp hM hS hc9 hv9 hcl9 => ?_) (fun v9 μ9 H locs hp hM hS => ?_)
  · obtain ⟨e9, h⟩ := hp
    rw [e9] at hM
    exact mz_out hex hlk hM hS hc9 hv9 hcl9 (Nat.le_of_ble_eq_true rfl) (Nat.le_of_ble_eq_true rfl) ⟨rfl, h⟩
  · obtain ⟨ru2, rfl, e9, h⟩ := hp
    rw [e9] at hM
    refine W.cs (cells' := 1) (slots' := 6) rfl rfl ?_
    obtain ⟨a3, e4, h⟩ := h
    refine mz_o0 e4 ?_
    obtain ⟨k5, h⟩ := h
    refine mz_geti S hG hM cf_4 fd_129 tw_166 dX10_nestOf_5 k5 ?_
    exact vx_ret (mz_iret S hr hlk hM hS rfl (Nat.le_of_ble_eq_true rfl) (Nat.le_of_ble_eq_true rfl) dX10_nestOf_8 ⟨_, rfl, rfl, h⟩)
set_option maxRecDepth 100000 in
set_option maxHeartbeats 4000000 in
theorem c_X10_keyOf {l : Launch} {G : mgT} {μ : mmT} {o : Nat} {x1 : Int32} {Q : Int32 → Prop} {X : String → Prop} (hl0 : l.stackTraces = false) (h : w_X10_keyOf G μ o x1 Q X) : MX G l yX10_keyOf cX10_keyOf 2 (some .int) { frames := 7, cells := 1, slots := 6, locals := 122 } [.ref o, .int x1] μ (pI (fun r μ' => μ' = μ ∧ Q r)) (fun E μ' => μ' = μ ∧ X E) := by
  refine mz_MX (by decide +kernel) (Nat.le_of_ble_eq_true rfl) (fun p e s m args below meth c S hG hr hlk hnm hex => ?_)
  intro H locs ls hM hS hl
  have hl : lv_has ls 2 [(0, .ref o), (1, .int x1)] := hl
  unfold w_X10_keyOf at h
  refine lv_aload_n S.1 S.2.1 dX10_keyOf_0 rfl (lv_at hl 0 rfl) ?_
  refine lv_iload_n S.1 S.2.1 dX10_keyOf_1 rfl (lv_at hl 1 rfl) ?_
  obtain ⟨k1, h⟩ := h
  refine mz_VX S hG hM hS cf_9 k1 (As := [.int x1]) (rest := []) (c_X10_existingMessage hl0 h) yf_X10_existingMessage tw_490 tw_492 ts_1 ⟨Nat.le_of_ble_eq_true rfl, Nat.le_of_ble_eq_true rfl⟩ ⟨(Nat.le_of_ble_eq_true rfl), (Nat.le_of_ble_eq_true rfl)⟩ rfl hl.1 rfl (Nat.le_of_ble_eq_true rfl) dX10_keyOf_2 (fun E ce q9 μ9 H locs hp hM hS hc9 hv9 hcl9 => ?_) (fun v9 μ9 H locs hp hM hS => ?_)
  · obtain ⟨e9, h⟩ := hp
    rw [e9] at hM
    exact mz_out hex hlk hM hS hc9 hv9 hcl9 (Nat.le_of_ble_eq_true rfl) (Nat.le_of_ble_eq_true rfl) ⟨rfl, h⟩
  · obtain ⟨ru2, rfl, e9, h⟩ := hp
    rw [e9] at hM
    refine W.cs (cells' := 1) (slots' := 6) rfl rfl ?_
    obtain ⟨a3, e4, h⟩ := h
    refine mz_o0 e4 ?_
    obtain ⟨k5, h⟩ := h
    refine mz_geti S hG hM cf_4 fd_130 tw_169 dX10_keyOf_5 k5 ?_
    exact vx_ret (mz_iret S hr hlk hM hS rfl (Nat.le_of_ble_eq_true rfl) (Nat.le_of_ble_eq_true rfl) dX10_keyOf_8 ⟨_, rfl, rfl, h⟩)
set_option maxRecDepth 100000 in
set_option maxHeartbeats 4000000 in
theorem c_X10_attempts {l : Launch} {G : mgT} {μ : mmT} {o : Nat} {x1 : Int32} {Q : Int32 → Prop} {X : String → Prop} (hl0 : l.stackTraces = false) (h : w_X10_attempts G μ o x1 Q X) : MX G l yX10_attempts cX10_attempts 2 (some .int) { frames := 7, cells := 1, slots := 6, locals := 122 } [.ref o, .int x1] μ (pI (fun r μ' => μ' = μ ∧ Q r)) (fun E μ' => μ' = μ ∧ X E) := by
  refine mz_MX (by decide +kernel) (Nat.le_of_ble_eq_true rfl) (fun p e s m args below meth c S hG hr hlk hnm hex => ?_)
  intro H locs ls hM hS hl
  have hl : lv_has ls 2 [(0, .ref o), (1, .int x1)] := hl
  unfold w_X10_attempts at h
  refine lv_aload_n S.1 S.2.1 dX10_attempts_0 rfl (lv_at hl 0 rfl) ?_
  refine lv_iload_n S.1 S.2.1 dX10_attempts_1 rfl (lv_at hl 1 rfl) ?_
  obtain ⟨k1, h⟩ := h
  refine mz_VX S hG hM hS cf_9 k1 (As := [.int x1]) (rest := []) (c_X10_existingMessage hl0 h) yf_X10_existingMessage tw_490 tw_492 ts_1 ⟨Nat.le_of_ble_eq_true rfl, Nat.le_of_ble_eq_true rfl⟩ ⟨(Nat.le_of_ble_eq_true rfl), (Nat.le_of_ble_eq_true rfl)⟩ rfl hl.1 rfl (Nat.le_of_ble_eq_true rfl) dX10_attempts_2 (fun E ce q9 μ9 H locs hp hM hS hc9 hv9 hcl9 => ?_) (fun v9 μ9 H locs hp hM hS => ?_)
  · obtain ⟨e9, h⟩ := hp
    rw [e9] at hM
    exact mz_out hex hlk hM hS hc9 hv9 hcl9 (Nat.le_of_ble_eq_true rfl) (Nat.le_of_ble_eq_true rfl) ⟨rfl, h⟩
  · obtain ⟨ru2, rfl, e9, h⟩ := hp
    rw [e9] at hM
    refine W.cs (cells' := 1) (slots' := 6) rfl rfl ?_
    obtain ⟨a3, e4, h⟩ := h
    refine mz_o0 e4 ?_
    obtain ⟨k5, h⟩ := h
    refine mz_geti S hG hM cf_4 fd_131 tw_172 dX10_attempts_5 k5 ?_
    exact vx_ret (mz_iret S hr hlk hM hS rfl (Nat.le_of_ble_eq_true rfl) (Nat.le_of_ble_eq_true rfl) dX10_attempts_8 ⟨_, rfl, rfl, h⟩)
set_option maxRecDepth 100000 in
set_option maxHeartbeats 4000000 in
theorem c_X10_status {l : Launch} {G : mgT} {μ : mmT} {o : Nat} {x1 : Int32} {Q : Int32 → Prop} {X : String → Prop} (hl0 : l.stackTraces = false) (h : w_X10_status G μ o x1 Q X) : MX G l yX10_status cX10_status 2 (some .char) { frames := 7, cells := 1, slots := 6, locals := 122 } [.ref o, .int x1] μ (pI (fun r μ' => μ' = μ ∧ Q r)) (fun E μ' => μ' = μ ∧ X E) := by
  refine mz_MX (by decide +kernel) (Nat.le_of_ble_eq_true rfl) (fun p e s m args below meth c S hG hr hlk hnm hex => ?_)
  intro H locs ls hM hS hl
  have hl : lv_has ls 2 [(0, .ref o), (1, .int x1)] := hl
  unfold w_X10_status at h
  refine lv_aload_n S.1 S.2.1 dX10_status_0 rfl (lv_at hl 0 rfl) ?_
  refine lv_iload_n S.1 S.2.1 dX10_status_1 rfl (lv_at hl 1 rfl) ?_
  obtain ⟨k1, h⟩ := h
  refine mz_VX S hG hM hS cf_9 k1 (As := [.int x1]) (rest := []) (c_X10_existingMessage hl0 h) yf_X10_existingMessage tw_490 tw_492 ts_1 ⟨Nat.le_of_ble_eq_true rfl, Nat.le_of_ble_eq_true rfl⟩ ⟨(Nat.le_of_ble_eq_true rfl), (Nat.le_of_ble_eq_true rfl)⟩ rfl hl.1 rfl (Nat.le_of_ble_eq_true rfl) dX10_status_2 (fun E ce q9 μ9 H locs hp hM hS hc9 hv9 hcl9 => ?_) (fun v9 μ9 H locs hp hM hS => ?_)
  · obtain ⟨e9, h⟩ := hp
    rw [e9] at hM
    exact mz_out hex hlk hM hS hc9 hv9 hcl9 (Nat.le_of_ble_eq_true rfl) (Nat.le_of_ble_eq_true rfl) ⟨rfl, h⟩
  · obtain ⟨ru2, rfl, e9, h⟩ := hp
    rw [e9] at hM
    refine W.cs (cells' := 1) (slots' := 6) rfl rfl ?_
    obtain ⟨a3, e4, h⟩ := h
    refine mz_o0 e4 ?_
    obtain ⟨k5, h⟩ := h
    refine mz_geti S hG hM cf_4 fd_132 tw_175 dX10_status_5 k5 ?_
    obtain ⟨f6, h⟩ := h
    exact vx_ret (mz_iret S hr hlk hM hS (mz_nC f6) (Nat.le_of_ble_eq_true rfl) (Nat.le_of_ble_eq_true rfl) dX10_status_8 ⟨_, rfl, rfl, h⟩)
set_option maxRecDepth 100000 in
set_option maxHeartbeats 4000000 in
theorem c_X10_napMinutes {l : Launch} {G : mgT} {μ : mmT} {o : Nat} {x1 : Int32} {Q : Int32 → Prop} {X : String → Prop} (hl0 : l.stackTraces = false) (h : w_X10_napMinutes G μ o x1 Q X) : MX G l yX10_napMinutes cX10_napMinutes 3 (some .int) { frames := 7, cells := 2, slots := 12, locals := 122 } [.ref o, .int x1] μ (pI (fun r μ' => μ' = μ ∧ Q r)) (fun E μ' => μ' = μ ∧ X E) := by
  refine mz_MX (by decide +kernel) (Nat.le_of_ble_eq_true rfl) (fun p e s m args below meth c S hG hr hlk hnm hex => ?_)
  intro H locs ls hM hS hl
  have hl : lv_has ls 3 [(0, .ref o), (1, .int x1)] := hl
  unfold w_X10_napMinutes at h
  refine lv_aload_n S.1 S.2.1 dX10_napMinutes_0 rfl (lv_at hl 0 rfl) ?_
  refine lv_iload_n S.1 S.2.1 dX10_napMinutes_1 rfl (lv_at hl 1 rfl) ?_
  obtain ⟨k1, h⟩ := h
  refine mz_VX S hG hM hS cf_9 k1 (As := [.int x1]) (rest := []) (c_X10_existingMessage hl0 h) yf_X10_existingMessage tw_490 tw_492 ts_1 ⟨Nat.le_of_ble_eq_true rfl, Nat.le_of_ble_eq_true rfl⟩ ⟨(Nat.le_of_ble_eq_true rfl), (Nat.le_of_ble_eq_true rfl)⟩ rfl hl.1 rfl (Nat.le_of_ble_eq_true rfl) dX10_napMinutes_2 (fun E ce q9 μ9 H locs hp hM hS hc9 hv9 hcl9 => ?_) (fun v9 μ9 H locs hp hM hS => ?_)
  · obtain ⟨e9, h⟩ := hp
    rw [e9] at hM
    exact mz_out hex hlk hM hS hc9 hv9 hcl9 (Nat.le_of_ble_eq_true rfl) (Nat.le_of_ble_eq_true rfl) ⟨rfl, h⟩
  · obtain ⟨ru2, rfl, e9, h⟩ := hp
    rw [e9] at hM
    refine W.cs (cells' := 1) (slots' := 6) rfl rfl ?_
    refine mz_astore_n (x := ru2) (lv' := [(2, va_rf ru2), (0, .ref o), (1, .int x1)]) S.1 S.2.1 dX10_napMinutes_5 rfl hl (by decide) rfl (fun ls hl => ?_)
    refine mz_aload_n (x := ru2) S.1 S.2.1 dX10_napMinutes_6 rfl (lv_at hl 0 rfl) ?_
    obtain ⟨a3, e4, h⟩ := h
    refine mz_o0 e4 ?_
    obtain ⟨k5, h⟩ := h
    refine mz_geti S hG hM cf_4 fd_132 tw_175 dX10_napMinutes_7 k5 ?_
    refine lv_bipush (v := (nI 110)) S.1 S.2.1 dX10_napMinutes_10 (by decide) ?_
    refine lv_icmp_eq (tgt := 25) S.1 S.2.1 dX10_napMinutes_12 (by decide) (fun c6 => ?_) (fun c6 => ?_)
    · have h := h.1 c6
      refine mz_aload_n (x := ru2) S.1 S.2.1 dX10_napMinutes_25 rfl (lv_at hl 0 rfl) ?_
      refine mz_o0 e4 ?_
      refine mz_geti S hG hM cf_4 fd_133 tw_178 dX10_napMinutes_26 k5 ?_
      refine lv_aload_n S.1 S.2.1 dX10_napMinutes_29 rfl (lv_at hl 1 rfl) ?_
      refine mz_getr S hG hM cf_9 fd_288 tw_343 dX10_napMinutes_30 k1 ?_
      obtain ⟨a7, e8, h⟩ := h
      refine mz_o0 e8 ?_
      obtain ⟨k9, h⟩ := h
      refine mz_geti S hG hM cf_7 fd_231 tw_205 dX10_napMinutes_33 k9 ?_
      refine lv_isub S.1 S.2.1 dX10_napMinutes_36 ?_
      exact vx_ret (mz_iret S hr hlk hM hS rfl (Nat.le_of_ble_eq_true rfl) (Nat.le_of_ble_eq_true rfl) dX10_napMinutes_37 ⟨_, rfl, rfl, h⟩)
    · have h := h.2 c6
      exact mz_throw S hl0 hG hM hS hex hlk hl.1 xf_98_102 (j := 2) rfl dX10_napMinutes_15 dX10_napMinutes_18 dX10_napMinutes_19 dX10_napMinutes_21 dX10_napMinutes_24 (Nat.le_of_ble_eq_true rfl) (Nat.le_of_ble_eq_true rfl) (Nat.le_of_ble_eq_true rfl) (Nat.le_of_ble_eq_true rfl) (Nat.le_of_ble_eq_true rfl) (Nat.le_of_ble_eq_true rfl) ⟨rfl, h⟩
set_option maxRecDepth 100000 in
set_option maxHeartbeats 4000000 in
theorem c_X10_waitingMessage {l : Launch} {G : mgT} {μ : mmT} {o : Nat} {x1 : Int32} {Q : Int32 → Prop} {X : String → Prop} (hl0 : l.stackTraces = false) (h : w_X10_waitingMessage G μ o x1 Q X) : MX G l yX10_waitingMessage cX10_waitingMessage 3 (some .int) { frames := 6, cells := 1, slots := 6, locals := 100 } [.ref o, .int x1] μ (pI (fun r μ' => μ' = μ ∧ Q r)) (fun E μ' => μ' = μ ∧ X E) := by
  refine mz_MX (by decide +kernel) (Nat.le_of_ble_eq_true rfl) (fun p e s m args below meth c S hG hr hlk hnm hex => ?_)
  intro H locs ls hM hS hl
  have hl : lv_has ls 3 [(0, .ref o), (1, .int x1)] := hl
  unfold w_X10_waitingMessage at h
  refine lv_aload_n S.1 S.2.1 dX10_waitingMessage_0 rfl (lv_at hl 0 rfl) ?_
  obtain ⟨k1, h⟩ := h
  refine mz_getr S hG hM cf_9 fd_288 tw_343 dX10_waitingMessage_1 k1 ?_
  refine lv_iload_n S.1 S.2.1 dX10_waitingMessage_4 rfl (lv_at hl 1 rfl) ?_
  obtain ⟨a2, e3, h⟩ := h
  refine mz_o1 e3 ?_
  obtain ⟨k4, h⟩ := h
  refine mz_V S hG hM hS cf_7 k4 (As := [.int x1]) (rest := []) (c_X8_waitingAtRank h) yf_X8_waitingAtRank tw_1226 tw_616 tw_617 ⟨Nat.le_of_ble_eq_true rfl, Nat.le_of_ble_eq_true rfl⟩ ⟨(Nat.le_of_ble_eq_true rfl), (Nat.le_of_ble_eq_true rfl)⟩ rfl hl.1 rfl (Nat.le_of_ble_eq_true rfl) dX10_waitingMessage_5 (fun v9 μ9 H locs hp hM hS => ?_)
  obtain ⟨ru5, rfl, e9, h⟩ := hp
  rw [e9] at hM
  refine W.cs (cells' := 0) (slots' := 0) rfl rfl ?_
  refine mz_astore_n (x := ru5) (lv' := [(2, va_rf ru5), (0, .ref o), (1, .int x1)]) S.1 S.2.1 dX10_waitingMessage_8 rfl hl (by decide) rfl (fun ls hl => ?_)
  refine mz_aload_n (x := ru5) S.1 S.2.1 dX10_waitingMessage_9 rfl (lv_at hl 0 rfl) ?_
  refine mz_ifnonnull (tgt := 23) S.1 S.2.1 dX10_waitingMessage_10 (by decide) (fun a6 e7 => ?_) (fun e7 => ?_)
  · have h := h.2 a6 e7
    refine mz_aload_n (x := ru5) S.1 S.2.1 dX10_waitingMessage_23 rfl (lv_at hl 0 rfl) ?_
    refine mz_o0 e7 ?_
    obtain ⟨k8, h⟩ := h
    refine mz_geti S hG hM cf_4 fd_128 tw_163 dX10_waitingMessage_24 k8 ?_
    exact vx_ret (mz_iret S hr hlk hM hS rfl (Nat.le_of_ble_eq_true rfl) (Nat.le_of_ble_eq_true rfl) dX10_waitingMessage_27 ⟨_, rfl, rfl, h⟩)
  · have h := h.1 e7
    exact mz_throwN S hl0 hG hM hS hex hlk hl.1 xf_108_112 (j := 21) rfl dX10_waitingMessage_13 dX10_waitingMessage_16 dX10_waitingMessage_17 dX10_waitingMessage_19 dX10_waitingMessage_22 (Nat.le_of_ble_eq_true rfl) (Nat.le_of_ble_eq_true rfl) (Nat.le_of_ble_eq_true rfl) (Nat.le_of_ble_eq_true rfl) (Nat.le_of_ble_eq_true rfl) (Nat.le_of_ble_eq_true rfl) ⟨rfl, h⟩
set_option maxRecDepth 100000 in
set_option maxHeartbeats 4000000 in
theorem c_X10_wouldBeLost {l : Launch} {G : mgT} {μ : mmT} {o : Nat} {x1 : Int32} {Q : Int32 → Prop} {X : String → Prop} (hl0 : l.stackTraces = false) (h : w_X10_wouldBeLost G μ o x1 Q X) : MX G l yX10_wouldBeLost cX10_wouldBeLost 3 (some .boolean) { frames := 7, cells := 2, slots := 12, locals := 122 } [.ref o, .int x1] μ (pI (fun r μ' => μ' = μ ∧ Q r)) (fun E μ' => μ' = μ ∧ X E) := by
  refine mz_MX (by decide +kernel) (Nat.le_of_ble_eq_true rfl) (fun p e s m args below meth c S hG hr hlk hnm hex => ?_)
  intro H locs ls hM hS hl
  have hl : lv_has ls 3 [(0, .ref o), (1, .int x1)] := hl
  unfold w_X10_wouldBeLost at h
  refine lv_aload_n S.1 S.2.1 dX10_wouldBeLost_0 rfl (lv_at hl 0 rfl) ?_
  refine lv_iload_n S.1 S.2.1 dX10_wouldBeLost_1 rfl (lv_at hl 1 rfl) ?_
  obtain ⟨k1, h⟩ := h
  refine mz_VX S hG hM hS cf_9 k1 (As := [.int x1]) (rest := []) (c_X10_existingMessage hl0 h) yf_X10_existingMessage tw_490 tw_492 ts_1 ⟨Nat.le_of_ble_eq_true rfl, Nat.le_of_ble_eq_true rfl⟩ ⟨(Nat.le_of_ble_eq_true rfl), (Nat.le_of_ble_eq_true rfl)⟩ rfl hl.1 rfl (Nat.le_of_ble_eq_true rfl) dX10_wouldBeLost_2 (fun E ce q9 μ9 H locs hp hM hS hc9 hv9 hcl9 => ?_) (fun v9 μ9 H locs hp hM hS => ?_)
  · obtain ⟨e9, h⟩ := hp
    rw [e9] at hM
    exact mz_out hex hlk hM hS hc9 hv9 hcl9 (Nat.le_of_ble_eq_true rfl) (Nat.le_of_ble_eq_true rfl) ⟨rfl, h⟩
  · obtain ⟨ru2, rfl, e9, h⟩ := hp
    rw [e9] at hM
    refine W.cs (cells' := 1) (slots' := 6) rfl rfl ?_
    refine mz_astore_n (x := ru2) (lv' := [(2, va_rf ru2), (0, .ref o), (1, .int x1)]) S.1 S.2.1 dX10_wouldBeLost_5 rfl hl (by decide) rfl (fun ls hl => ?_)
    refine mz_aload_n (x := ru2) S.1 S.2.1 dX10_wouldBeLost_6 rfl (lv_at hl 0 rfl) ?_
    obtain ⟨a3, e4, h⟩ := h
    refine mz_o0 e4 ?_
    obtain ⟨k5, h⟩ := h
    refine mz_geti S hG hM cf_4 fd_132 tw_175 dX10_wouldBeLost_7 k5 ?_
    refine lv_bipush (v := (nI 100)) S.1 S.2.1 dX10_wouldBeLost_10 (by decide) ?_
    refine lv_icmp_ne (tgt := 25) S.1 S.2.1 dX10_wouldBeLost_12 (by decide) (fun c6 => ?_) (fun c6 => ?_)
    · have h := h.1 c6
      refine lv_aload_n S.1 S.2.1 dX10_wouldBeLost_25 rfl (lv_at hl 1 rfl) ?_
      refine mz_getr S hG hM cf_9 fd_288 tw_343 dX10_wouldBeLost_26 k1 ?_
      refine mz_aload_n (x := ru2) S.1 S.2.1 dX10_wouldBeLost_29 rfl (lv_at hl 0 rfl) ?_
      refine mz_aload_n (x := ru2) S.1 S.2.1 dX10_wouldBeLost_30 rfl (lv_at hl 0 rfl) ?_
      refine mz_o0 e4 ?_
      refine mz_geti S hG hM cf_4 fd_131 tw_172 dX10_wouldBeLost_31 k5 ?_
      refine lv_iconst (v := (nI 1)) S.1 S.2.1 dX10_wouldBeLost_34 (by decide) ?_
      refine lv_iadd S.1 S.2.1 dX10_wouldBeLost_35 ?_
      obtain ⟨a7, e8, h⟩ := h
      refine mz_o2 e8 ?_
      obtain ⟨k9, h⟩ := h
      refine mz_V S hG hM hS cf_7 k9 (As := [va_rf ru2, .int ((mI μ 131 a3) + (nI 1))]) (rest := []) (c_X8_isLost h) yf_X8_isLost tw_1246 tw_580 tw_581 ⟨Nat.le_of_ble_eq_true rfl, Nat.le_of_ble_eq_true rfl⟩ ⟨(Nat.le_of_ble_eq_true rfl), (Nat.le_of_ble_eq_true rfl)⟩ rfl hl.1 rfl (Nat.le_of_ble_eq_true rfl) dX10_wouldBeLost_36 (fun v9 μ9 H locs hp hM hS => ?_)
      obtain ⟨u10, rfl, e9, h⟩ := hp
      rw [e9] at hM
      refine W.cs (cells' := 1) (slots' := 6) rfl rfl ?_
      obtain ⟨f11, h⟩ := h
      exact vx_ret (mz_iret S hr hlk hM hS (mz_nZ f11) (Nat.le_of_ble_eq_true rfl) (Nat.le_of_ble_eq_true rfl) dX10_wouldBeLost_39 ⟨_, rfl, rfl, h⟩)
    · have h := h.2 c6
      exact mz_throw S hl0 hG hM hS hex hlk hl.1 xf_98_102 (j := 23) rfl dX10_wouldBeLost_15 dX10_wouldBeLost_18 dX10_wouldBeLost_19 dX10_wouldBeLost_21 dX10_wouldBeLost_24 (Nat.le_of_ble_eq_true rfl) (Nat.le_of_ble_eq_true rfl) (Nat.le_of_ble_eq_true rfl) (Nat.le_of_ble_eq_true rfl) (Nat.le_of_ble_eq_true rfl) (Nat.le_of_ble_eq_true rfl) ⟨rfl, h⟩
set_option maxRecDepth 100000 in
set_option maxHeartbeats 4000000 in
theorem c_X10_napLength {l : Launch} {G : mgT} {μ : mmT} {o : Nat} {x1 : Int32} {Q : Int64 → Prop} {X : String → Prop} (hl0 : l.stackTraces = false) (h : w_X10_napLength G μ o x1 Q X) : MX G l yX10_napLength cX10_napLength 2 (some .long) { frames := 6, cells := 1, slots := 6, locals := 100 } [.ref o, .int x1] μ (pL (fun r μ' => μ' = μ ∧ Q r)) (fun E μ' => μ' = μ ∧ X E) := by
  refine mz_MX (by decide +kernel) (Nat.le_of_ble_eq_true rfl) (fun p e s m args below meth c S hG hr hlk hnm hex => ?_)
  have hB10 : ∀  (H : Heap) (locs : List Loc) (ls : Array Slot), Mm G μ H → va_S (Ah G) s.heap H locs → lv_has ls 2 [(0, .ref o)] → w_X10_napLength_b10 G μ o Q X   → W p l e { frames := 6, cells := 1, slots := 6, locals := 100 } s m args below meth c H locs (0) (0) (vx_MQ below (mQ G (pL (fun r μ' => μ' = μ ∧ Q r))) (mX G (fun E μ' => μ' = μ ∧ X E)) args s 1 6 (Ah G)) (F0 m 10 ls []) := by
    intro   H locs ls hM hS hl h
    unfold w_X10_napLength_b10 at h
    exact mz_throw S hl0 hG hM hS hex hlk hl.1 xf_91_95 (j := 22) rfl dX10_napLength_10 dX10_napLength_13 dX10_napLength_14 dX10_napLength_16 dX10_napLength_19 (Nat.le_of_ble_eq_true rfl) (Nat.le_of_ble_eq_true rfl) (Nat.le_of_ble_eq_true rfl) (Nat.le_of_ble_eq_true rfl) (Nat.le_of_ble_eq_true rfl) (Nat.le_of_ble_eq_true rfl) ⟨rfl, h⟩
  intro H locs ls hM hS hl
  have hl : lv_has ls 2 [(0, .ref o), (1, .int x1)] := hl
  unfold w_X10_napLength at h
  refine lv_iload_n S.1 S.2.1 dX10_napLength_0 rfl (lv_at hl 1 rfl) ?_
  refine lv_if_lt (tgt := 10) S.1 S.2.1 dX10_napLength_1 (by decide) (fun c1 => ?_) (fun c1 => ?_)
  · have h := h.1 c1
    exact hB10   H locs ls hM hS (lv_sub hl [0] rfl) h
  · have h := h.2 c1
    refine lv_iload_n S.1 S.2.1 dX10_napLength_4 rfl (lv_at hl 1 rfl) ?_
    refine lv_bipush (v := (nI 40)) S.1 S.2.1 dX10_napLength_5 (by decide) ?_
    refine lv_icmp_le (tgt := 20) S.1 S.2.1 dX10_napLength_7 (by decide) (fun c2 => ?_) (fun c2 => ?_)
    · have h := h.1 c2
      refine lv_iload_n S.1 S.2.1 dX10_napLength_20 rfl (lv_at hl 1 rfl) ?_
      refine mz_S S hG hM hS (As := [.int x1]) (rest := []) (c_X10_shiftedNap h) yf_X10_shiftedNap tw_1236 tw_605 ⟨Nat.le_of_ble_eq_true rfl, Nat.le_of_ble_eq_true rfl⟩ ⟨(Nat.le_of_ble_eq_true rfl), (Nat.le_of_ble_eq_true rfl)⟩ rfl hl.1 rfl (Nat.le_of_ble_eq_true rfl) dX10_napLength_21 (fun v9 μ9 H locs hp hM hS => ?_)
      obtain ⟨u3, rfl, e9, h⟩ := hp
      rw [e9] at hM
      refine W.cs (cells' := 0) (slots' := 0) rfl rfl ?_
      exact vx_ret (mz_lret S hr hlk hM hS (Nat.le_of_ble_eq_true rfl) (Nat.le_of_ble_eq_true rfl) dX10_napLength_24 ⟨_, rfl, rfl, h⟩)
    · have h := h.2 c2
      exact hB10   H locs ls hM hS (lv_sub hl [0] rfl) h
set_option maxRecDepth 100000 in
set_option maxHeartbeats 4000000 in
theorem c_X10_doubledNap {l : Launch} {G : mgT} {μ : mmT} {x0 : Int32} {Q : Int64 → Prop} (h : w_X10_doubledNap G μ x0 Q) : MC G l yX10_doubledNap cX10_doubledNap 4 (some .long) { frames := 0, cells := 0, slots := 0, locals := 0 } [.int x0] μ (pL (fun r μ' => μ' = μ ∧ Q r)) := by
  refine mz_MC (by decide +kernel) (Nat.le_of_ble_eq_true rfl) (fun p e s m args below meth c S hG hr hlk hnm => ?_)
  have hB4 : ∀ (n : Nat) (x0 : Int32) (x1 : Int64) (x3 : Int32) (H : Heap) (locs : List Loc) (ls : Array Slot), Mm G μ H → va_S (Ah G) s.heap H locs → lv_has ls 4 [(0, .int x0), (1, .long x1), (3, .int x3)] → w_X10_doubledNap_l4 G μ Q  n x0 x1 x3 → W p l e { frames := 0, cells := 0, slots := 0, locals := 0 } s m args below meth c H locs (0) (0) (MQ below (mQ G (pL (fun r μ' => μ' = μ ∧ Q r))) args s 0 0 (Ah G)) (F0 m 4 ls []) := by
    intro  n
    induction n with
    | zero =>
      intro x0 x1 x3 H locs ls hM hS hl h
      exact False.elim h
    | succ n ih =>
      intro x0 x1 x3 H locs ls hM hS hl h
      have h : w_X10_doubledNap_b4 G μ Q  (w_X10_doubledNap_l4 G μ Q  n) x0 x1 x3 := h
      unfold w_X10_doubledNap_b4 at h
      refine lv_iload_n S.1 S.2.1 dX10_doubledNap_4 rfl (lv_at hl 2 rfl) ?_
      refine lv_iload_n S.1 S.2.1 dX10_doubledNap_5 rfl (lv_at hl 0 rfl) ?_
      refine lv_icmp_ge (tgt := 19) S.1 S.2.1 dX10_doubledNap_6 (by decide) (fun c1 => ?_) (fun c1 => ?_)
      · have h := h.1 c1
        refine lv_lload_n S.1 S.2.1 dX10_doubledNap_19 rfl (lv_at hl 1 rfl) ?_
        exact mz_lret S hr hlk hM hS (Nat.le_of_ble_eq_true rfl) (Nat.le_of_ble_eq_true rfl) dX10_doubledNap_20 ⟨_, rfl, rfl, h⟩
      · have h := h.2 c1
        refine lv_lload_n S.1 S.2.1 dX10_doubledNap_9 rfl (lv_at hl 1 rfl) ?_
        refine lv_lload_n S.1 S.2.1 dX10_doubledNap_10 rfl (lv_at hl 1 rfl) ?_
        refine lv_ladd S.1 S.2.1 dX10_doubledNap_11 ?_
        refine lv_lstore_n (lv' := [(1, .long (x1 + x1)), (0, .int x0), (3, .int x3)]) S.1 S.2.1 dX10_doubledNap_12 rfl hl (by decide) rfl (fun ls hl => ?_)
        refine lv_iinc (v := (x3 + nI 1)) (lv' := [(3, .int (x3 + nI 1)), (1, .long (x1 + x1)), (0, .int x0)]) S.1 S.2.1 dX10_doubledNap_13 hl (k := 2) rfl rfl (by decide) rfl (fun ls hl => ?_)
        refine lv_goto (tgt := 4) S.1 S.2.1 dX10_doubledNap_16 (by decide) ?_
        exact ih x0 (x1 + x1) (x3 + nI 1) H locs ls hM hS (lv_sub hl [2, 1, 0] rfl) h
  intro H locs ls hM hS hl
  have hl : lv_has ls 4 [(0, .int x0)] := hl
  unfold w_X10_doubledNap at h
  refine lv_lconst (v := lN 1) S.1 S.2.1 dX10_doubledNap_0 rfl ?_
  refine lv_lstore_n (lv' := [(1, .long (lN 1)), (0, .int x0)]) S.1 S.2.1 dX10_doubledNap_1 rfl hl (by decide) rfl (fun ls hl => ?_)
  refine lv_iconst (v := (nI 0)) S.1 S.2.1 dX10_doubledNap_2 (by decide) ?_
  refine lv_istore_n (lv' := [(3, .int (nI 0)), (1, .long (lN 1)), (0, .int x0)]) S.1 S.2.1 dX10_doubledNap_3 rfl hl (by decide) rfl (fun ls hl => ?_)
  obtain ⟨n9, h⟩ := h
  exact hB4  n9 x0 (lN 1) (nI 0) H locs ls hM hS (lv_sub hl [2, 1, 0] rfl) h
set_option maxRecDepth 100000 in
set_option maxHeartbeats 4000000 in
theorem c_X10_napLengthByDoubling {l : Launch} {G : mgT} {μ : mmT} {o : Nat} {x1 : Int32} {Q : Int64 → Prop} {X : String → Prop} (hl0 : l.stackTraces = false) (h : w_X10_napLengthByDoubling G μ o x1 Q X) : MX G l yX10_napLengthByDoubling cX10_napLengthByDoubling 2 (some .long) { frames := 6, cells := 1, slots := 6, locals := 100 } [.ref o, .int x1] μ (pL (fun r μ' => μ' = μ ∧ Q r)) (fun E μ' => μ' = μ ∧ X E) := by
  refine mz_MX (by decide +kernel) (Nat.le_of_ble_eq_true rfl) (fun p e s m args below meth c S hG hr hlk hnm hex => ?_)
  have hB10 : ∀  (H : Heap) (locs : List Loc) (ls : Array Slot), Mm G μ H → va_S (Ah G) s.heap H locs → lv_has ls 2 [(0, .ref o)] → w_X10_napLengthByDoubling_b10 G μ o Q X   → W p l e { frames := 6, cells := 1, slots := 6, locals := 100 } s m args below meth c H locs (0) (0) (vx_MQ below (mQ G (pL (fun r μ' => μ' = μ ∧ Q r))) (mX G (fun E μ' => μ' = μ ∧ X E)) args s 1 6 (Ah G)) (F0 m 10 ls []) := by
    intro   H locs ls hM hS hl h
    unfold w_X10_napLengthByDoubling_b10 at h
    exact mz_throw S hl0 hG hM hS hex hlk hl.1 xf_91_95 (j := 22) rfl dX10_napLengthByDoubling_10 dX10_napLengthByDoubling_13 dX10_napLengthByDoubling_14 dX10_napLengthByDoubling_16 dX10_napLengthByDoubling_19 (Nat.le_of_ble_eq_true rfl) (Nat.le_of_ble_eq_true rfl) (Nat.le_of_ble_eq_true rfl) (Nat.le_of_ble_eq_true rfl) (Nat.le_of_ble_eq_true rfl) (Nat.le_of_ble_eq_true rfl) ⟨rfl, h⟩
  intro H locs ls hM hS hl
  have hl : lv_has ls 2 [(0, .ref o), (1, .int x1)] := hl
  unfold w_X10_napLengthByDoubling at h
  refine lv_iload_n S.1 S.2.1 dX10_napLengthByDoubling_0 rfl (lv_at hl 1 rfl) ?_
  refine lv_if_lt (tgt := 10) S.1 S.2.1 dX10_napLengthByDoubling_1 (by decide) (fun c1 => ?_) (fun c1 => ?_)
  · have h := h.1 c1
    exact hB10   H locs ls hM hS (lv_sub hl [0] rfl) h
  · have h := h.2 c1
    refine lv_iload_n S.1 S.2.1 dX10_napLengthByDoubling_4 rfl (lv_at hl 1 rfl) ?_
    refine lv_bipush (v := (nI 40)) S.1 S.2.1 dX10_napLengthByDoubling_5 (by decide) ?_
    refine lv_icmp_le (tgt := 20) S.1 S.2.1 dX10_napLengthByDoubling_7 (by decide) (fun c2 => ?_) (fun c2 => ?_)
    · have h := h.1 c2
      refine lv_iload_n S.1 S.2.1 dX10_napLengthByDoubling_20 rfl (lv_at hl 1 rfl) ?_
      refine mz_S S hG hM hS (As := [.int x1]) (rest := []) (c_X10_doubledNap h) yf_X10_doubledNap tw_1284 tw_1285 ⟨Nat.le_of_ble_eq_true rfl, Nat.le_of_ble_eq_true rfl⟩ ⟨(Nat.le_of_ble_eq_true rfl), (Nat.le_of_ble_eq_true rfl)⟩ rfl hl.1 rfl (Nat.le_of_ble_eq_true rfl) dX10_napLengthByDoubling_21 (fun v9 μ9 H locs hp hM hS => ?_)
      obtain ⟨u3, rfl, e9, h⟩ := hp
      rw [e9] at hM
      refine W.cs (cells' := 0) (slots' := 0) rfl rfl ?_
      exact vx_ret (mz_lret S hr hlk hM hS (Nat.le_of_ble_eq_true rfl) (Nat.le_of_ble_eq_true rfl) dX10_napLengthByDoubling_24 ⟨_, rfl, rfl, h⟩)
    · have h := h.2 c2
      exact hB10   H locs ls hM hS (lv_sub hl [0] rfl) h
set_option maxRecDepth 100000 in
set_option maxHeartbeats 4000000 in
theorem c_X10_foreseenMinutes {l : Launch} {G : mgT} {μ : mmT} {o : Nat} {x1 : Int32} {Q : Int32 → mmT → Prop} (h : w_X10_foreseenMinutes G μ o x1 Q) : MC G l yX10_foreseenMinutes cX10_foreseenMinutes 4 (some .int) { frames := 6, cells := 0, slots := 0, locals := 172 } [.ref o, .int x1] μ (pI Q) := by
  refine mz_MC (by decide +kernel) (Nat.le_of_ble_eq_true rfl) (fun p e s m args below meth c S hG hr hlk hnm => ?_)
  have hB13 : ∀ (n : Nat) (x1 : Int32) (x2 : Int32) (μ : mmT) (H : Heap) (locs : List Loc) (ls : Array Slot), Mm G μ H → va_S (Ah G) s.heap H locs → lv_has ls 4 [(0, .ref o), (1, .int x1), (2, .int x2)] → w_X10_foreseenMinutes_l13 G o Q  n x1 x2 μ → W p l e { frames := 6, cells := 0, slots := 0, locals := 172 } s m args below meth c H locs (0) (0) (MQ below (mQ G (pI Q)) args s 0 0 (Ah G)) (F0 m 13 ls []) := by
    intro  n
    induction n with
    | zero =>
      intro x1 x2 μ H locs ls hM hS hl h
      exact False.elim h
    | succ n ih =>
      intro x1 x2 μ H locs ls hM hS hl h
      have h : w_X10_foreseenMinutes_b13 G o Q  (w_X10_foreseenMinutes_l13 G o Q  n) x1 x2 μ := h
      unfold w_X10_foreseenMinutes_b13 at h
      refine lv_iload_n S.1 S.2.1 dX10_foreseenMinutes_13 rfl (lv_at hl 2 rfl) ?_
      refine lv_bipush (v := (nI 100)) S.1 S.2.1 dX10_foreseenMinutes_14 (by decide) ?_
      refine lv_icmp_gt (tgt := 60) S.1 S.2.1 dX10_foreseenMinutes_16 (by decide) (fun c6 => ?_) (fun c6 => ?_)
      · have h := h.1 c6
        refine lv_iconst (v := (-1)) S.1 S.2.1 dX10_foreseenMinutes_60 (by decide) ?_
        exact mz_iret S hr hlk hM hS rfl (Nat.le_of_ble_eq_true rfl) (Nat.le_of_ble_eq_true rfl) dX10_foreseenMinutes_61 ⟨_, rfl, h⟩
      · have h := h.2 c6
        refine lv_aload_n S.1 S.2.1 dX10_foreseenMinutes_19 rfl (lv_at hl 0 rfl) ?_
        obtain ⟨k7, h⟩ := h
        refine mz_getr S hG hM cf_9 fd_290 tw_345 dX10_foreseenMinutes_20 k7 ?_
        refine lv_iconst (v := (nI 1)) S.1 S.2.1 dX10_foreseenMinutes_23 (by decide) ?_
        obtain ⟨a8, e9, h⟩ := h
        refine mz_o1 e9 ?_
        obtain ⟨k10, h⟩ := h
        refine mz_V S hG hM hS cf_7 k10 (As := [.int (nI 1)]) (rest := []) (c_X8_pass h) yf_X8_pass tw_562 tw_563 tw_564 ⟨Nat.le_of_ble_eq_true rfl, Nat.le_of_ble_eq_true rfl⟩ ⟨(Nat.le_of_ble_eq_true rfl), (Nat.le_of_ble_eq_true rfl)⟩ rfl hl.1 rfl (Nat.le_of_ble_eq_true rfl) dX10_foreseenMinutes_24 (fun v9 μ12 H locs hp hM hS => ?_)
        obtain ⟨u11, rfl, h⟩ := hp
        refine W.cs (cells' := 0) (slots' := 0) rfl rfl ?_
        refine lv_pop S.1 S.2.1 dX10_foreseenMinutes_27 rfl ?_
        refine lv_aload_n S.1 S.2.1 dX10_foreseenMinutes_28 rfl (lv_at hl 0 rfl) ?_
        obtain ⟨k13, h⟩ := h
        refine mz_getr S hG hM cf_9 fd_290 tw_345 dX10_foreseenMinutes_29 k13 ?_
        refine lv_iload_n S.1 S.2.1 dX10_foreseenMinutes_32 rfl (lv_at hl 1 rfl) ?_
        obtain ⟨a14, e15, h⟩ := h
        refine mz_o1 e15 ?_
        obtain ⟨k16, h⟩ := h
        refine mz_V S hG hM hS cf_7 k16 (As := [.int x1]) (rest := []) (c_X8_messageWith h) yf_X8_messageWith tw_494 tw_495 tw_496 ⟨Nat.le_of_ble_eq_true rfl, Nat.le_of_ble_eq_true rfl⟩ ⟨(Nat.le_of_ble_eq_true rfl), (Nat.le_of_ble_eq_true rfl)⟩ rfl hl.1 rfl (Nat.le_of_ble_eq_true rfl) dX10_foreseenMinutes_33 (fun v9 μ9 H locs hp hM hS => ?_)
        obtain ⟨ru17, rfl, e9, h⟩ := hp
        rw [e9] at hM
        refine W.cs (cells' := 0) (slots' := 0) rfl rfl ?_
        refine mz_astore_n (x := ru17) (lv' := [(3, va_rf ru17), (0, .ref o), (1, .int x1), (2, .int x2)]) S.1 S.2.1 dX10_foreseenMinutes_36 rfl hl (by decide) rfl (fun ls hl => ?_)
        refine mz_aload_n (x := ru17) S.1 S.2.1 dX10_foreseenMinutes_37 rfl (lv_at hl 0 rfl) ?_
        refine mz_ifnonnull (tgt := 43) S.1 S.2.1 dX10_foreseenMinutes_38 (by decide) (fun a18 e19 => ?_) (fun e19 => ?_)
        · have h := h.2 a18 e19
          refine mz_aload_n (x := ru17) S.1 S.2.1 dX10_foreseenMinutes_43 rfl (lv_at hl 0 rfl) ?_
          refine mz_o0 e19 ?_
          obtain ⟨k20, h⟩ := h
          refine mz_geti S hG hM cf_4 fd_132 tw_175 dX10_foreseenMinutes_44 k20 ?_
          refine lv_bipush (v := (nI 100)) S.1 S.2.1 dX10_foreseenMinutes_47 (by decide) ?_
          refine lv_icmp_ne (tgt := 54) S.1 S.2.1 dX10_foreseenMinutes_49 (by decide) (fun c21 => ?_) (fun c21 => ?_)
          · have h := h.1 c21
            refine lv_iinc (v := (x2 + nI 1)) (lv' := [(2, .int (x2 + nI 1)), (3, va_rf ru17), (0, .ref o), (1, .int x1)]) S.1 S.2.1 dX10_foreseenMinutes_54 hl (k := 3) rfl rfl (by decide) rfl (fun ls hl => ?_)
            refine lv_goto (tgt := 13) S.1 S.2.1 dX10_foreseenMinutes_57 (by decide) ?_
            exact ih x1 (x2 + nI 1) μ12 H locs ls hM hS (lv_sub hl [2, 3, 0] rfl) h
          · have h := h.2 c21
            refine lv_iload_n S.1 S.2.1 dX10_foreseenMinutes_52 rfl (lv_at hl 3 rfl) ?_
            exact mz_iret S hr hlk hM hS rfl (Nat.le_of_ble_eq_true rfl) (Nat.le_of_ble_eq_true rfl) dX10_foreseenMinutes_53 ⟨_, rfl, h⟩
        · have h := h.1 e19
          refine lv_iconst (v := (-1)) S.1 S.2.1 dX10_foreseenMinutes_41 (by decide) ?_
          exact mz_iret S hr hlk hM hS rfl (Nat.le_of_ble_eq_true rfl) (Nat.le_of_ble_eq_true rfl) dX10_foreseenMinutes_42 ⟨_, rfl, h⟩
  intro H locs ls hM hS hl
  have hl : lv_has ls 4 [(0, .ref o), (1, .int x1)] := hl
  unfold w_X10_foreseenMinutes at h
  refine lv_aload_n S.1 S.2.1 dX10_foreseenMinutes_0 rfl (lv_at hl 0 rfl) ?_
  obtain ⟨k1, h⟩ := h
  refine mz_getr S hG hM cf_9 fd_290 tw_345 dX10_foreseenMinutes_1 k1 ?_
  refine lv_aload_n S.1 S.2.1 dX10_foreseenMinutes_4 rfl (lv_at hl 0 rfl) ?_
  refine mz_getr S hG hM cf_9 fd_288 tw_343 dX10_foreseenMinutes_5 k1 ?_
  obtain ⟨a2, e3, h⟩ := h
  refine mz_o1 e3 ?_
  obtain ⟨k4, h⟩ := h
  refine mz_V S hG hM hS cf_7 k4 (As := [va_rf (mR μ 288 o)]) (rest := []) (c_X8_copyFrom h) yf_X8_copyFrom tw_539 tw_540 tw_541 ⟨Nat.le_of_ble_eq_true rfl, Nat.le_of_ble_eq_true rfl⟩ ⟨(Nat.le_of_ble_eq_true rfl), (Nat.le_of_ble_eq_true rfl)⟩ rfl hl.1 rfl (Nat.le_of_ble_eq_true rfl) dX10_foreseenMinutes_8 (fun v9 μ5 H locs hp hM hS => ?_)
  obtain ⟨rfl, h⟩ := hp
  refine W.cs (cells' := 0) (slots' := 0) rfl rfl ?_
  refine lv_iconst (v := (nI 1)) S.1 S.2.1 dX10_foreseenMinutes_11 (by decide) ?_
  refine lv_istore_n (lv' := [(2, .int (nI 1)), (0, .ref o), (1, .int x1)]) S.1 S.2.1 dX10_foreseenMinutes_12 rfl hl (by decide) rfl (fun ls hl => ?_)
  obtain ⟨n9, h⟩ := h
  exact hB13  n9 x1 (nI 1) μ5 H locs ls hM hS (lv_sub hl [1, 2, 0] rfl) h
set_option maxRecDepth 100000 in
set_option maxHeartbeats 4000000 in
theorem c_X10_minutesUntilDelivered {l : Launch} {G : mgT} {μ : mmT} {o : Nat} {x1 : Int32} {Q : Int32 → mmT → Prop} {X : String → mmT → Prop} (hl0 : l.stackTraces = false) (h : w_X10_minutesUntilDelivered G μ o x1 Q X) : MX G l yX10_minutesUntilDelivered cX10_minutesUntilDelivered 3 (some .int) { frames := 7, cells := 2, slots := 12, locals := 195 } [.ref o, .int x1] μ (pI Q) X := by
  refine mz_MX (by decide +kernel) (Nat.le_of_ble_eq_true rfl) (fun p e s m args below meth c S hG hr hlk hnm hex => ?_)
  intro H locs ls hM hS hl
  have hl : lv_has ls 3 [(0, .ref o), (1, .int x1)] := hl
  unfold w_X10_minutesUntilDelivered at h
  refine lv_aload_n S.1 S.2.1 dX10_minutesUntilDelivered_0 rfl (lv_at hl 0 rfl) ?_
  refine lv_iload_n S.1 S.2.1 dX10_minutesUntilDelivered_1 rfl (lv_at hl 1 rfl) ?_
  obtain ⟨k1, h⟩ := h
  refine mz_VX S hG hM hS cf_9 k1 (As := [.int x1]) (rest := []) (c_X10_existingMessage hl0 h) yf_X10_existingMessage tw_490 tw_492 ts_1 ⟨Nat.le_of_ble_eq_true rfl, Nat.le_of_ble_eq_true rfl⟩ ⟨(Nat.le_of_ble_eq_true rfl), (Nat.le_of_ble_eq_true rfl)⟩ rfl hl.1 rfl (Nat.le_of_ble_eq_true rfl) dX10_minutesUntilDelivered_2 (fun E ce q9 μ9 H locs hp hM hS hc9 hv9 hcl9 => ?_) (fun v9 μ9 H locs hp hM hS => ?_)
  · obtain ⟨e9, h⟩ := hp
    rw [e9] at hM
    exact mz_out hex hlk hM hS hc9 hv9 hcl9 (Nat.le_of_ble_eq_true rfl) (Nat.le_of_ble_eq_true rfl) h
  · obtain ⟨ru2, rfl, e9, h⟩ := hp
    rw [e9] at hM
    refine W.cs (cells' := 1) (slots' := 6) rfl rfl ?_
    obtain ⟨a3, e4, h⟩ := h
    refine mz_o0 e4 ?_
    obtain ⟨k5, h⟩ := h
    refine mz_geti S hG hM cf_4 fd_132 tw_175 dX10_minutesUntilDelivered_5 k5 ?_
    refine lv_bipush (v := (nI 100)) S.1 S.2.1 dX10_minutesUntilDelivered_8 (by decide) ?_
    refine lv_icmp_ne (tgt := 23) S.1 S.2.1 dX10_minutesUntilDelivered_10 (by decide) (fun c6 => ?_) (fun c6 => ?_)
    · have h := h.1 c6
      refine lv_aload_n S.1 S.2.1 dX10_minutesUntilDelivered_23 rfl (lv_at hl 0 rfl) ?_
      refine lv_iload_n S.1 S.2.1 dX10_minutesUntilDelivered_24 rfl (lv_at hl 1 rfl) ?_
      refine mz_V S hG hM hS cf_9 k1 (As := [.int x1]) (rest := []) (c_X10_foreseenMinutes h) yf_X10_foreseenMinutes tw_535 tw_537 ts_3 ⟨Nat.le_of_ble_eq_true rfl, Nat.le_of_ble_eq_true rfl⟩ ⟨(Nat.le_of_ble_eq_true rfl), (Nat.le_of_ble_eq_true rfl)⟩ rfl hl.1 rfl (Nat.le_of_ble_eq_true rfl) dX10_minutesUntilDelivered_25 (fun v9 μ8 H locs hp hM hS => ?_)
      obtain ⟨u7, rfl, h⟩ := hp
      refine W.cs (cells' := 1) (slots' := 6) rfl rfl ?_
      refine lv_istore_n (lv' := [(2, .int u7), (0, .ref o), (1, .int x1)]) S.1 S.2.1 dX10_minutesUntilDelivered_28 rfl hl (by decide) rfl (fun ls hl => ?_)
      refine lv_iload_n S.1 S.2.1 dX10_minutesUntilDelivered_29 rfl (lv_at hl 0 rfl) ?_
      refine lv_iconst (v := (-1)) S.1 S.2.1 dX10_minutesUntilDelivered_30 (by decide) ?_
      refine lv_icmp_ne (tgt := 44) S.1 S.2.1 dX10_minutesUntilDelivered_31 (by decide) (fun c9 => ?_) (fun c9 => ?_)
      · have h := h.1 c9
        refine lv_iload_n S.1 S.2.1 dX10_minutesUntilDelivered_44 rfl (lv_at hl 0 rfl) ?_
        exact vx_ret (mz_iret S hr hlk hM hS rfl (Nat.le_of_ble_eq_true rfl) (Nat.le_of_ble_eq_true rfl) dX10_minutesUntilDelivered_45 ⟨_, rfl, h⟩)
      · have h := h.2 c9
        exact mz_throw S hl0 hG hM hS hex hlk hl.1 xf_98_102 (j := 4) rfl dX10_minutesUntilDelivered_34 dX10_minutesUntilDelivered_37 dX10_minutesUntilDelivered_38 dX10_minutesUntilDelivered_40 dX10_minutesUntilDelivered_43 (Nat.le_of_ble_eq_true rfl) (Nat.le_of_ble_eq_true rfl) (Nat.le_of_ble_eq_true rfl) (Nat.le_of_ble_eq_true rfl) (Nat.le_of_ble_eq_true rfl) (Nat.le_of_ble_eq_true rfl) h
    · have h := h.2 c6
      exact mz_throw S hl0 hG hM hS hex hlk hl.1 xf_98_102 (j := 3) rfl dX10_minutesUntilDelivered_13 dX10_minutesUntilDelivered_16 dX10_minutesUntilDelivered_17 dX10_minutesUntilDelivered_19 dX10_minutesUntilDelivered_22 (Nat.le_of_ble_eq_true rfl) (Nat.le_of_ble_eq_true rfl) (Nat.le_of_ble_eq_true rfl) (Nat.le_of_ble_eq_true rfl) (Nat.le_of_ble_eq_true rfl) (Nat.le_of_ble_eq_true rfl) h
set_option maxRecDepth 100000 in
set_option maxHeartbeats 4000000 in
theorem c_X10_time {l : Launch} {G : mgT} {μ : mmT} {o : Nat} {Q : Int32 → Prop} (h : w_X10_time G μ o Q) : MC G l yX10_time cX10_time 1 (some .int) { frames := 0, cells := 0, slots := 0, locals := 0 } [.ref o] μ (pI (fun r μ' => μ' = μ ∧ Q r)) := by
  refine mz_MC (by decide +kernel) (Nat.le_of_ble_eq_true rfl) (fun p e s m args below meth c S hG hr hlk hnm => ?_)
  intro H locs ls hM hS hl
  have hl : lv_has ls 1 [(0, .ref o)] := hl
  unfold w_X10_time at h
  refine lv_aload_n S.1 S.2.1 dX10_time_0 rfl (lv_at hl 0 rfl) ?_
  obtain ⟨k1, h⟩ := h
  refine mz_getr S hG hM cf_9 fd_288 tw_343 dX10_time_1 k1 ?_
  obtain ⟨a2, e3, h⟩ := h
  refine mz_o0 e3 ?_
  obtain ⟨k4, h⟩ := h
  refine mz_geti S hG hM cf_7 fd_231 tw_205 dX10_time_4 k4 ?_
  exact mz_iret S hr hlk hM hS rfl (Nat.le_of_ble_eq_true rfl) (Nat.le_of_ble_eq_true rfl) dX10_time_7 ⟨_, rfl, rfl, h⟩
set_option maxRecDepth 100000 in
set_option maxHeartbeats 4000000 in
theorem c_X10_wind {l : Launch} {G : mgT} {μ : mmT} {o : Nat} {Q : Int32 → Prop} (h : w_X10_wind G μ o Q) : MC G l yX10_wind cX10_wind 1 (some .int) { frames := 0, cells := 0, slots := 0, locals := 0 } [.ref o] μ (pI (fun r μ' => μ' = μ ∧ Q r)) := by
  refine mz_MC (by decide +kernel) (Nat.le_of_ble_eq_true rfl) (fun p e s m args below meth c S hG hr hlk hnm => ?_)
  intro H locs ls hM hS hl
  have hl : lv_has ls 1 [(0, .ref o)] := hl
  unfold w_X10_wind at h
  refine lv_aload_n S.1 S.2.1 dX10_wind_0 rfl (lv_at hl 0 rfl) ?_
  obtain ⟨k1, h⟩ := h
  refine mz_getr S hG hM cf_9 fd_288 tw_343 dX10_wind_1 k1 ?_
  obtain ⟨a2, e3, h⟩ := h
  refine mz_o0 e3 ?_
  obtain ⟨k4, h⟩ := h
  refine mz_geti S hG hM cf_7 fd_232 tw_207 dX10_wind_4 k4 ?_
  exact mz_iret S hr hlk hM hS rfl (Nat.le_of_ble_eq_true rfl) (Nat.le_of_ble_eq_true rfl) dX10_wind_7 ⟨_, rfl, rfl, h⟩
set_option maxRecDepth 100000 in
set_option maxHeartbeats 4000000 in
theorem c_X10_publishedTotal {l : Launch} {G : mgT} {μ : mmT} {o : Nat} {Q : Int32 → Prop} (h : w_X10_publishedTotal G μ o Q) : MC G l yX10_publishedTotal cX10_publishedTotal 1 (some .int) { frames := 0, cells := 0, slots := 0, locals := 0 } [.ref o] μ (pI (fun r μ' => μ' = μ ∧ Q r)) := by
  refine mz_MC (by decide +kernel) (Nat.le_of_ble_eq_true rfl) (fun p e s m args below meth c S hG hr hlk hnm => ?_)
  intro H locs ls hM hS hl
  have hl : lv_has ls 1 [(0, .ref o)] := hl
  unfold w_X10_publishedTotal at h
  refine lv_aload_n S.1 S.2.1 dX10_publishedTotal_0 rfl (lv_at hl 0 rfl) ?_
  obtain ⟨k1, h⟩ := h
  refine mz_getr S hG hM cf_9 fd_288 tw_343 dX10_publishedTotal_1 k1 ?_
  obtain ⟨a2, e3, h⟩ := h
  refine mz_o0 e3 ?_
  obtain ⟨k4, h⟩ := h
  refine mz_getr S hG hM cf_7 fd_227 tw_197 dX10_publishedTotal_4 k4 ?_
  obtain ⟨a5, e6, h⟩ := h
  refine mz_o0 e6 ?_
  obtain ⟨k7, h⟩ := h
  refine mz_geti S hG hM cf_8 fd_256 tw_64 dX10_publishedTotal_7 k7 ?_
  exact mz_iret S hr hlk hM hS rfl (Nat.le_of_ble_eq_true rfl) (Nat.le_of_ble_eq_true rfl) dX10_publishedTotal_10 ⟨_, rfl, rfl, h⟩
set_option maxRecDepth 100000 in
set_option maxHeartbeats 4000000 in
theorem c_X10_deliveredTotal {l : Launch} {G : mgT} {μ : mmT} {o : Nat} {Q : Int32 → Prop} (h : w_X10_deliveredTotal G μ o Q) : MC G l yX10_deliveredTotal cX10_deliveredTotal 1 (some .int) { frames := 0, cells := 0, slots := 0, locals := 0 } [.ref o] μ (pI (fun r μ' => μ' = μ ∧ Q r)) := by
  refine mz_MC (by decide +kernel) (Nat.le_of_ble_eq_true rfl) (fun p e s m args below meth c S hG hr hlk hnm => ?_)
  intro H locs ls hM hS hl
  have hl : lv_has ls 1 [(0, .ref o)] := hl
  unfold w_X10_deliveredTotal at h
  refine lv_aload_n S.1 S.2.1 dX10_deliveredTotal_0 rfl (lv_at hl 0 rfl) ?_
  obtain ⟨k1, h⟩ := h
  refine mz_getr S hG hM cf_9 fd_288 tw_343 dX10_deliveredTotal_1 k1 ?_
  obtain ⟨a2, e3, h⟩ := h
  refine mz_o0 e3 ?_
  obtain ⟨k4, h⟩ := h
  refine mz_getr S hG hM cf_7 fd_227 tw_197 dX10_deliveredTotal_4 k4 ?_
  obtain ⟨a5, e6, h⟩ := h
  refine mz_o0 e6 ?_
  obtain ⟨k7, h⟩ := h
  refine mz_geti S hG hM cf_8 fd_257 tw_67 dX10_deliveredTotal_7 k7 ?_
  exact mz_iret S hr hlk hM hS rfl (Nat.le_of_ble_eq_true rfl) (Nat.le_of_ble_eq_true rfl) dX10_deliveredTotal_10 ⟨_, rfl, rfl, h⟩
set_option maxRecDepth 100000 in
set_option maxHeartbeats 4000000 in
theorem c_X10_readTotal {l : Launch} {G : mgT} {μ : mmT} {o : Nat} {Q : Int32 → Prop} (h : w_X10_readTotal G μ o Q) : MC G l yX10_readTotal cX10_readTotal 1 (some .int) { frames := 0, cells := 0, slots := 0, locals := 0 } [.ref o] μ (pI (fun r μ' => μ' = μ ∧ Q r)) := by
  refine mz_MC (by decide +kernel) (Nat.le_of_ble_eq_true rfl) (fun p e s m args below meth c S hG hr hlk hnm => ?_)
  intro H locs ls hM hS hl
  have hl : lv_has ls 1 [(0, .ref o)] := hl
  unfold w_X10_readTotal at h
  refine lv_aload_n S.1 S.2.1 dX10_readTotal_0 rfl (lv_at hl 0 rfl) ?_
  obtain ⟨k1, h⟩ := h
  refine mz_getr S hG hM cf_9 fd_288 tw_343 dX10_readTotal_1 k1 ?_
  obtain ⟨a2, e3, h⟩ := h
  refine mz_o0 e3 ?_
  obtain ⟨k4, h⟩ := h
  refine mz_getr S hG hM cf_7 fd_227 tw_197 dX10_readTotal_4 k4 ?_
  obtain ⟨a5, e6, h⟩ := h
  refine mz_o0 e6 ?_
  obtain ⟨k7, h⟩ := h
  refine mz_geti S hG hM cf_8 fd_258 tw_70 dX10_readTotal_7 k7 ?_
  exact mz_iret S hr hlk hM hS rfl (Nat.le_of_ble_eq_true rfl) (Nat.le_of_ble_eq_true rfl) dX10_readTotal_10 ⟨_, rfl, rfl, h⟩
set_option maxRecDepth 100000 in
set_option maxHeartbeats 4000000 in
theorem c_X10_duplicateTotal {l : Launch} {G : mgT} {μ : mmT} {o : Nat} {Q : Int32 → Prop} (h : w_X10_duplicateTotal G μ o Q) : MC G l yX10_duplicateTotal cX10_duplicateTotal 1 (some .int) { frames := 0, cells := 0, slots := 0, locals := 0 } [.ref o] μ (pI (fun r μ' => μ' = μ ∧ Q r)) := by
  refine mz_MC (by decide +kernel) (Nat.le_of_ble_eq_true rfl) (fun p e s m args below meth c S hG hr hlk hnm => ?_)
  intro H locs ls hM hS hl
  have hl : lv_has ls 1 [(0, .ref o)] := hl
  unfold w_X10_duplicateTotal at h
  refine lv_aload_n S.1 S.2.1 dX10_duplicateTotal_0 rfl (lv_at hl 0 rfl) ?_
  obtain ⟨k1, h⟩ := h
  refine mz_getr S hG hM cf_9 fd_288 tw_343 dX10_duplicateTotal_1 k1 ?_
  obtain ⟨a2, e3, h⟩ := h
  refine mz_o0 e3 ?_
  obtain ⟨k4, h⟩ := h
  refine mz_getr S hG hM cf_7 fd_227 tw_197 dX10_duplicateTotal_4 k4 ?_
  obtain ⟨a5, e6, h⟩ := h
  refine mz_o0 e6 ?_
  obtain ⟨k7, h⟩ := h
  refine mz_geti S hG hM cf_8 fd_259 tw_73 dX10_duplicateTotal_7 k7 ?_
  exact mz_iret S hr hlk hM hS rfl (Nat.le_of_ble_eq_true rfl) (Nat.le_of_ble_eq_true rfl) dX10_duplicateTotal_10 ⟨_, rfl, rfl, h⟩
set_option maxRecDepth 100000 in
set_option maxHeartbeats 4000000 in
theorem c_X10_failedTotal {l : Launch} {G : mgT} {μ : mmT} {o : Nat} {Q : Int32 → Prop} (h : w_X10_failedTotal G μ o Q) : MC G l yX10_failedTotal cX10_failedTotal 1 (some .int) { frames := 0, cells := 0, slots := 0, locals := 0 } [.ref o] μ (pI (fun r μ' => μ' = μ ∧ Q r)) := by
  refine mz_MC (by decide +kernel) (Nat.le_of_ble_eq_true rfl) (fun p e s m args below meth c S hG hr hlk hnm => ?_)
  intro H locs ls hM hS hl
  have hl : lv_has ls 1 [(0, .ref o)] := hl
  unfold w_X10_failedTotal at h
  refine lv_aload_n S.1 S.2.1 dX10_failedTotal_0 rfl (lv_at hl 0 rfl) ?_
  obtain ⟨k1, h⟩ := h
  refine mz_getr S hG hM cf_9 fd_288 tw_343 dX10_failedTotal_1 k1 ?_
  obtain ⟨a2, e3, h⟩ := h
  refine mz_o0 e3 ?_
  obtain ⟨k4, h⟩ := h
  refine mz_getr S hG hM cf_7 fd_227 tw_197 dX10_failedTotal_4 k4 ?_
  obtain ⟨a5, e6, h⟩ := h
  refine mz_o0 e6 ?_
  obtain ⟨k7, h⟩ := h
  refine mz_geti S hG hM cf_8 fd_260 tw_76 dX10_failedTotal_7 k7 ?_
  exact mz_iret S hr hlk hM hS rfl (Nat.le_of_ble_eq_true rfl) (Nat.le_of_ble_eq_true rfl) dX10_failedTotal_10 ⟨_, rfl, rfl, h⟩
set_option maxRecDepth 100000 in
set_option maxHeartbeats 4000000 in
theorem c_X10_arrivalTotal {l : Launch} {G : mgT} {μ : mmT} {o : Nat} {Q : Int32 → Prop} (h : w_X10_arrivalTotal G μ o Q) : MC G l yX10_arrivalTotal cX10_arrivalTotal 1 (some .int) { frames := 0, cells := 0, slots := 0, locals := 0 } [.ref o] μ (pI (fun r μ' => μ' = μ ∧ Q r)) := by
  refine mz_MC (by decide +kernel) (Nat.le_of_ble_eq_true rfl) (fun p e s m args below meth c S hG hr hlk hnm => ?_)
  intro H locs ls hM hS hl
  have hl : lv_has ls 1 [(0, .ref o)] := hl
  unfold w_X10_arrivalTotal at h
  refine lv_aload_n S.1 S.2.1 dX10_arrivalTotal_0 rfl (lv_at hl 0 rfl) ?_
  obtain ⟨k1, h⟩ := h
  refine mz_getr S hG hM cf_9 fd_288 tw_343 dX10_arrivalTotal_1 k1 ?_
  obtain ⟨a2, e3, h⟩ := h
  refine mz_o0 e3 ?_
  obtain ⟨k4, h⟩ := h
  refine mz_getr S hG hM cf_7 fd_227 tw_197 dX10_arrivalTotal_4 k4 ?_
  obtain ⟨a5, e6, h⟩ := h
  refine mz_o0 e6 ?_
  obtain ⟨k7, h⟩ := h
  refine mz_geti S hG hM cf_8 fd_262 tw_81 dX10_arrivalTotal_7 k7 ?_
  exact mz_iret S hr hlk hM hS rfl (Nat.le_of_ble_eq_true rfl) (Nat.le_of_ble_eq_true rfl) dX10_arrivalTotal_10 ⟨_, rfl, rfl, h⟩
set_option maxRecDepth 100000 in
set_option maxHeartbeats 4000000 in
theorem c_X10_messageCountByTotals {l : Launch} {G : mgT} {μ : mmT} {o : Nat} {Q : Int32 → Prop} (h : w_X10_messageCountByTotals G μ o Q) : MC G l yX10_messageCountByTotals cX10_messageCountByTotals 1 (some .int) { frames := 1, cells := 0, slots := 0, locals := 20 } [.ref o] μ (pI (fun r μ' => μ' = μ ∧ Q r)) := by
  refine mz_MC (by decide +kernel) (Nat.le_of_ble_eq_true rfl) (fun p e s m args below meth c S hG hr hlk hnm => ?_)
  intro H locs ls hM hS hl
  have hl : lv_has ls 1 [(0, .ref o)] := hl
  unfold w_X10_messageCountByTotals at h
  refine lv_aload_n S.1 S.2.1 dX10_messageCountByTotals_0 rfl (lv_at hl 0 rfl) ?_
  obtain ⟨k1, h⟩ := h
  refine mz_getr S hG hM cf_9 fd_288 tw_343 dX10_messageCountByTotals_1 k1 ?_
  obtain ⟨a2, e3, h⟩ := h
  refine mz_o0 e3 ?_
  obtain ⟨k4, h⟩ := h
  refine mz_getr S hG hM cf_7 fd_227 tw_197 dX10_messageCountByTotals_4 k4 ?_
  obtain ⟨a5, e6, h⟩ := h
  refine mz_o0 e6 ?_
  obtain ⟨k7, h⟩ := h
  refine mz_V S hG hM hS cf_8 k7 (As := []) (rest := []) (c_X9_existing h) yf_X9_existing tw_1377 tw_1378 tw_1379 ⟨Nat.le_of_ble_eq_true rfl, Nat.le_of_ble_eq_true rfl⟩ ⟨(Nat.le_of_ble_eq_true rfl), (Nat.le_of_ble_eq_true rfl)⟩ rfl hl.1 rfl (Nat.le_of_ble_eq_true rfl) dX10_messageCountByTotals_7 (fun v9 μ9 H locs hp hM hS => ?_)
  obtain ⟨u8, rfl, e9, h⟩ := hp
  rw [e9] at hM
  refine W.cs (cells' := 0) (slots' := 0) rfl rfl ?_
  exact mz_iret S hr hlk hM hS rfl (Nat.le_of_ble_eq_true rfl) (Nat.le_of_ble_eq_true rfl) dX10_messageCountByTotals_10 ⟨_, rfl, rfl, h⟩
set_option maxRecDepth 100000 in
set_option maxHeartbeats 4000000 in
theorem c_X10_meanOfAttempts {l : Launch} {G : mgT} {μ : mmT} {o : Nat} {Q : UInt64 → Prop} (h : w_X10_meanOfAttempts G μ o Q) : MC G l yX10_meanOfAttempts cX10_meanOfAttempts 1 (some .double) { frames := 1, cells := 0, slots := 0, locals := 22 } [.ref o] μ (pD (fun r μ' => μ' = μ ∧ Q r)) := by
  refine mz_MC (by decide +kernel) (Nat.le_of_ble_eq_true rfl) (fun p e s m args below meth c S hG hr hlk hnm => ?_)
  intro H locs ls hM hS hl
  have hl : lv_has ls 1 [(0, .ref o)] := hl
  unfold w_X10_meanOfAttempts at h
  refine lv_aload_n S.1 S.2.1 dX10_meanOfAttempts_0 rfl (lv_at hl 0 rfl) ?_
  obtain ⟨k1, h⟩ := h
  refine mz_getr S hG hM cf_9 fd_288 tw_343 dX10_meanOfAttempts_1 k1 ?_
  obtain ⟨a2, e3, h⟩ := h
  refine mz_o0 e3 ?_
  obtain ⟨k4, h⟩ := h
  refine mz_V S hG hM hS cf_7 k4 (As := []) (rest := []) (c_X8_sumOfAttempts h) yf_X8_sumOfAttempts tw_1316 tw_1317 tw_1318 ⟨Nat.le_of_ble_eq_true rfl, Nat.le_of_ble_eq_true rfl⟩ ⟨(Nat.le_of_ble_eq_true rfl), (Nat.le_of_ble_eq_true rfl)⟩ rfl hl.1 rfl (Nat.le_of_ble_eq_true rfl) dX10_meanOfAttempts_4 (fun v9 μ9 H locs hp hM hS => ?_)
  obtain ⟨u5, rfl, e9, h⟩ := hp
  rw [e9] at hM
  refine W.cs (cells' := 0) (slots' := 0) rfl rfl ?_
  refine lv_i2d S.1 S.2.1 dX10_meanOfAttempts_7 ?_
  refine lv_aload_n S.1 S.2.1 dX10_meanOfAttempts_8 rfl (lv_at hl 0 rfl) ?_
  refine mz_getr S hG hM cf_9 fd_288 tw_343 dX10_meanOfAttempts_9 k1 ?_
  refine mz_o0 e3 ?_
  refine mz_geti S hG hM cf_7 fd_230 tw_203 dX10_meanOfAttempts_12 k4 ?_
  refine lv_i2d S.1 S.2.1 dX10_meanOfAttempts_15 ?_
  obtain ⟨g6, h⟩ := h
  refine lv_ddiv S.1 S.2.1 dX10_meanOfAttempts_16 g6 ?_
  exact mz_dret S hr hlk hM hS (Nat.le_of_ble_eq_true rfl) (Nat.le_of_ble_eq_true rfl) dX10_meanOfAttempts_17 ⟨_, rfl, rfl, h⟩
set_option maxRecDepth 100000 in
set_option maxHeartbeats 4000000 in
theorem c_X10_meanAttempts {l : Launch} {G : mgT} {μ : mmT} {o : Nat} {Q : UInt64 → Prop} {X : String → Prop} (hl0 : l.stackTraces = false) (h : w_X10_meanAttempts G μ o Q X) : MX G l yX10_meanAttempts cX10_meanAttempts 1 (some .double) { frames := 6, cells := 1, slots := 6, locals := 100 } [.ref o] μ (pD (fun r μ' => μ' = μ ∧ Q r)) (fun E μ' => μ' = μ ∧ X E) := by
  refine mz_MX (by decide +kernel) (Nat.le_of_ble_eq_true rfl) (fun p e s m args below meth c S hG hr hlk hnm hex => ?_)
  intro H locs ls hM hS hl
  have hl : lv_has ls 1 [(0, .ref o)] := hl
  unfold w_X10_meanAttempts at h
  refine lv_aload_n S.1 S.2.1 dX10_meanAttempts_0 rfl (lv_at hl 0 rfl) ?_
  obtain ⟨k1, h⟩ := h
  refine mz_getr S hG hM cf_9 fd_288 tw_343 dX10_meanAttempts_1 k1 ?_
  obtain ⟨a2, e3, h⟩ := h
  refine mz_o0 e3 ?_
  obtain ⟨k4, h⟩ := h
  refine mz_geti S hG hM cf_7 fd_230 tw_203 dX10_meanAttempts_4 k4 ?_
  refine lv_if_ne (tgt := 21) S.1 S.2.1 dX10_meanAttempts_7 (by decide) (fun c5 => ?_) (fun c5 => ?_)
  · have h := h.1 c5
    refine lv_aload_n S.1 S.2.1 dX10_meanAttempts_21 rfl (lv_at hl 0 rfl) ?_
    refine mz_V S hG hM hS cf_9 k1 (As := []) (rest := []) (c_X10_meanOfAttempts h) yf_X10_meanOfAttempts tw_1312 tw_1314 ts_20 ⟨Nat.le_of_ble_eq_true rfl, Nat.le_of_ble_eq_true rfl⟩ ⟨(Nat.le_of_ble_eq_true rfl), (Nat.le_of_ble_eq_true rfl)⟩ rfl hl.1 rfl (Nat.le_of_ble_eq_true rfl) dX10_meanAttempts_22 (fun v9 μ9 H locs hp hM hS => ?_)
    obtain ⟨u6, rfl, e9, h⟩ := hp
    rw [e9] at hM
    refine W.cs (cells' := 0) (slots' := 0) rfl rfl ?_
    exact vx_ret (mz_dret S hr hlk hM hS (Nat.le_of_ble_eq_true rfl) (Nat.le_of_ble_eq_true rfl) dX10_meanAttempts_25 ⟨_, rfl, rfl, h⟩)
  · have h := h.2 c5
    exact mz_throwW S hl0 hG hM hS hex hlk hl.1 xf_275_279 (j := 24) rfl dX10_meanAttempts_10 dX10_meanAttempts_13 dX10_meanAttempts_14 dX10_meanAttempts_17 dX10_meanAttempts_20 (Nat.le_of_ble_eq_true rfl) (Nat.le_of_ble_eq_true rfl) (Nat.le_of_ble_eq_true rfl) (Nat.le_of_ble_eq_true rfl) (Nat.le_of_ble_eq_true rfl) (Nat.le_of_ble_eq_true rfl) ⟨rfl, h⟩
set_option maxRecDepth 100000 in
set_option maxHeartbeats 4000000 in
theorem c_X10_bitsOf {l : Launch} {G : mgT} {μ : mmT} {x0 : UInt64} {x2 : Int32} {x3 : Int32} {Q : Int64 → Prop} (h : w_X10_bitsOf G μ x0 x2 x3 Q) : MC G l yX10_bitsOf cX10_bitsOf 9 (some .long) { frames := 0, cells := 0, slots := 0, locals := 0 } [.double x0, .int x2, .int x3] μ (pL (fun r μ' => μ' = μ ∧ Q r)) := by
  refine mz_MC (by decide +kernel) (Nat.le_of_ble_eq_true rfl) (fun p e s m args below meth c S hG hr hlk hnm => ?_)
  have hB86 : ∀ (x2 : Int32) (x3 : Int32) (x4 : UInt64) (x6 : Int32) (H : Heap) (locs : List Loc) (ls : Array Slot), Mm G μ H → va_S (Ah G) s.heap H locs → lv_has ls 9 [(2, .int x2), (3, .int x3), (4, .double x4), (6, .int x6)] → w_X10_bitsOf_b86 G μ Q  x2 x3 x4 x6 → W p l e { frames := 0, cells := 0, slots := 0, locals := 0 } s m args below meth c H locs (0) (0) (MQ below (mQ G (pL (fun r μ' => μ' = μ ∧ Q r))) args s 0 0 (Ah G)) (F0 m 86 ls []) := by
    intro  x2 x3 x4 x6 H locs ls hM hS hl h
    unfold w_X10_bitsOf_b86 at h
    refine lv_dload S.1 S.2.1 dX10_bitsOf_86 (lv_at hl 2 rfl) ?_
    refine lv_dconst1 S.1 S.2.1 dX10_bitsOf_88 ?_
    obtain ⟨g4, h⟩ := h
    refine lv_dsub S.1 S.2.1 dX10_bitsOf_89 g4 ?_
    refine lv_lconst (v := lN 1) S.1 S.2.1 dX10_bitsOf_90 rfl ?_
    refine lv_iload_n S.1 S.2.1 dX10_bitsOf_91 rfl (lv_at hl 0 rfl) ?_
    refine lv_lshl S.1 S.2.1 dX10_bitsOf_92 rfl ?_
    refine lv_l2d S.1 S.2.1 dX10_bitsOf_93 ?_
    obtain ⟨g5, h⟩ := h
    refine lv_dmul S.1 S.2.1 dX10_bitsOf_94 g5 ?_
    refine lv_d2l S.1 S.2.1 dX10_bitsOf_95 ?_
    refine lv_lstore (lv' := [(7, .long (FP.d2l (FP.dmul (FP.dsub x4 FP.dconst1) (FP.l2d ((lN 1) <<< (x2.toInt64 &&& 63)))))), (2, .int x2), (3, .int x3), (4, .double x4), (6, .int x6)]) S.1 S.2.1 dX10_bitsOf_96 hl (by decide) rfl (fun ls hl => ?_)
    refine lv_iload S.1 S.2.1 dX10_bitsOf_98 (lv_at hl 4 rfl) ?_
    refine lv_iload_n S.1 S.2.1 dX10_bitsOf_100 rfl (lv_at hl 2 rfl) ?_
    refine lv_iadd S.1 S.2.1 dX10_bitsOf_101 ?_
    refine lv_i2l S.1 S.2.1 dX10_bitsOf_102 rfl ?_
    refine lv_iload_n S.1 S.2.1 dX10_bitsOf_103 rfl (lv_at hl 1 rfl) ?_
    refine lv_lshl S.1 S.2.1 dX10_bitsOf_104 rfl ?_
    refine lv_lload S.1 S.2.1 dX10_bitsOf_105 (lv_at hl 0 rfl) ?_
    refine lv_ladd S.1 S.2.1 dX10_bitsOf_107 ?_
    exact mz_lret S hr hlk hM hS (Nat.le_of_ble_eq_true rfl) (Nat.le_of_ble_eq_true rfl) dX10_bitsOf_108 ⟨_, rfl, rfl, h⟩
  have hB54 : ∀ (n : Nat) (x2 : Int32) (x3 : Int32) (x4 : UInt64) (x6 : Int32) (x7 : Int32) (H : Heap) (locs : List Loc) (ls : Array Slot), Mm G μ H → va_S (Ah G) s.heap H locs → lv_has ls 9 [(2, .int x2), (3, .int x3), (4, .double x4), (6, .int x6), (7, .int x7)] → w_X10_litsOf_l54 G μ Q  n x2 x3 x4 x6 x7 → W p l e { frames := 0, cells := 0, slots := 0, locals := 0 } s m args below meth c H locs (0) (0) (MQ below (mQ G (pL (fun r μ' => μ' = μ ∧ Q r))) args s 0 0 (Ah G)) (F0 m 54 ls []) := by
    intro  n
    induction n with
    | zero =>
      intro x2 x3 x4 x6 x7 H locs ls hM hS hl h
      exact False.elim h
    | succ n ih =>
      intro x2 x3 x4 x6 x7 H locs ls hM hS hl h
      have h : w_X10_bitsOf_b54 G μ Q  (w_X10_litsOf_l54 G μ Q  n) x2 x3 x4 x6 x7 := h
      unfold w_X10_bitsOf_b54 at h
      refine lv_iload S.1 S.2.1 dX10_bitsOf_54 (lv_at hl 4 rfl) ?_
      refine lv_sipush (v := (nI 1100)) S.1 S.2.1 dX10_bitsOf_56 (by decide) ?_
      refine lv_icmp_ge (tgt := 86) S.1 S.2.1 dX10_bitsOf_59 (by decide) (fun c3 => ?_) (fun c3 => ?_)
      · have h := h.1 c3
        exact hB86  x2 x3 x4 x6 H locs ls hM hS (lv_sub hl [0, 1, 2, 3] rfl) h
      · have h := h.2 c3
        refine lv_dload S.1 S.2.1 dX10_bitsOf_62 (lv_at hl 2 rfl) ?_
        refine lv_dconst1 S.1 S.2.1 dX10_bitsOf_64 ?_
        refine lv_dcmp S.1 S.2.1 dX10_bitsOf_65 ?_
        refine lv_if_ge (tgt := 86) S.1 S.2.1 dX10_bitsOf_66 (by decide) (fun c6 => ?_) (fun c6 => ?_)
        · have h := h.1 c6
          exact hB86  x2 x3 x4 x6 H locs ls hM hS (lv_sub hl [0, 1, 2, 3] rfl) h
        · have h := h.2 c6
          refine lv_dload S.1 S.2.1 dX10_bitsOf_69 (lv_at hl 2 rfl) ?_
          refine lv_ldc2d (v := 4611686018427387904) S.1 S.2.1 S.2.2.2.1 (S.2.2.2.2 _ tw_1331) dX10_bitsOf_71 ?_
          obtain ⟨g7, h⟩ := h
          refine lv_dmul S.1 S.2.1 dX10_bitsOf_74 g7 ?_
          refine lv_dstore (lv' := [(4, .double (FP.dmul x4 (4611686018427387904 : UInt64))), (2, .int x2), (3, .int x3), (6, .int x6), (7, .int x7)]) S.1 S.2.1 dX10_bitsOf_75 hl (by decide) rfl (fun ls hl => ?_)
          refine lv_iinc (v := (x6 + (-1))) (lv' := [(6, .int (x6 + (-1))), (4, .double (FP.dmul x4 (4611686018427387904 : UInt64))), (2, .int x2), (3, .int x3), (7, .int x7)]) S.1 S.2.1 dX10_bitsOf_77 hl (k := 3) rfl rfl (by decide) rfl (fun ls hl => ?_)
          refine lv_iinc (v := (x7 + nI 1)) (lv' := [(7, .int (x7 + nI 1)), (6, .int (x6 + (-1))), (4, .double (FP.dmul x4 (4611686018427387904 : UInt64))), (2, .int x2), (3, .int x3)]) S.1 S.2.1 dX10_bitsOf_80 hl (k := 4) rfl rfl (by decide) rfl (fun ls hl => ?_)
          refine lv_goto (tgt := 54) S.1 S.2.1 dX10_bitsOf_83 (by decide) ?_
          exact ih x2 x3 (FP.dmul x4 (4611686018427387904 : UInt64)) (x6 + (-1)) (x7 + nI 1) H locs ls hM hS (lv_sub hl [3, 4, 2, 1, 0] rfl) h
  have hB51 : ∀ (x2 : Int32) (x3 : Int32) (x4 : UInt64) (x6 : Int32) (H : Heap) (locs : List Loc) (ls : Array Slot), Mm G μ H → va_S (Ah G) s.heap H locs → lv_has ls 9 [(2, .int x2), (3, .int x3), (4, .double x4), (6, .int x6)] → w_X10_bitsOf_b51 G μ Q  x2 x3 x4 x6 → W p l e { frames := 0, cells := 0, slots := 0, locals := 0 } s m args below meth c H locs (0) (0) (MQ below (mQ G (pL (fun r μ' => μ' = μ ∧ Q r))) args s 0 0 (Ah G)) (F0 m 51 ls []) := by
    intro  x2 x3 x4 x6 H locs ls hM hS hl h
    unfold w_X10_bitsOf_b51 at h
    refine lv_iconst (v := (nI 0)) S.1 S.2.1 dX10_bitsOf_51 (by decide) ?_
    refine lv_istore (lv' := [(7, .int (nI 0)), (2, .int x2), (3, .int x3), (4, .double x4), (6, .int x6)]) S.1 S.2.1 dX10_bitsOf_52 hl (by decide) rfl (fun ls hl => ?_)
    obtain ⟨n9, h⟩ := h
    exact hB54  n9 x2 x3 x4 x6 (nI 0) H locs ls hM hS (lv_sub hl [1, 2, 3, 4, 0] rfl) h
  have hB17 : ∀ (n : Nat) (x2 : Int32) (x3 : Int32) (x4 : UInt64) (x6 : Int32) (x7 : Int32) (H : Heap) (locs : List Loc) (ls : Array Slot), Mm G μ H → va_S (Ah G) s.heap H locs → lv_has ls 9 [(2, .int x2), (3, .int x3), (4, .double x4), (6, .int x6), (7, .int x7)] → w_X10_litsOf_l17 G μ Q  n x2 x3 x4 x6 x7 → W p l e { frames := 0, cells := 0, slots := 0, locals := 0 } s m args below meth c H locs (0) (0) (MQ below (mQ G (pL (fun r μ' => μ' = μ ∧ Q r))) args s 0 0 (Ah G)) (F0 m 17 ls []) := by
    intro  n
    induction n with
    | zero =>
      intro x2 x3 x4 x6 x7 H locs ls hM hS hl h
      exact False.elim h
    | succ n ih =>
      intro x2 x3 x4 x6 x7 H locs ls hM hS hl h
      have h : w_X10_bitsOf_b17 G μ Q  (w_X10_litsOf_l17 G μ Q  n) x2 x3 x4 x6 x7 := h
      unfold w_X10_bitsOf_b17 at h
      refine lv_iload S.1 S.2.1 dX10_bitsOf_17 (lv_at hl 4 rfl) ?_
      refine lv_sipush (v := (nI 1100)) S.1 S.2.1 dX10_bitsOf_19 (by decide) ?_
      refine lv_icmp_ge (tgt := 51) S.1 S.2.1 dX10_bitsOf_22 (by decide) (fun c2 => ?_) (fun c2 => ?_)
      · have h := h.1 c2
        exact hB51  x2 x3 x4 x6 H locs ls hM hS (lv_sub hl [0, 1, 2, 3] rfl) h
      · have h := h.2 c2
        refine lv_dload S.1 S.2.1 dX10_bitsOf_25 (lv_at hl 2 rfl) ?_
        refine lv_ldc2d (v := 4611686018427387904) S.1 S.2.1 S.2.2.2.1 (S.2.2.2.2 _ tw_1331) dX10_bitsOf_27 ?_
        refine lv_dcmp S.1 S.2.1 dX10_bitsOf_30 ?_
        refine lv_if_lt (tgt := 51) S.1 S.2.1 dX10_bitsOf_31 (by decide) (fun c8 => ?_) (fun c8 => ?_)
        · have h := h.1 c8
          exact hB51  x2 x3 x4 x6 H locs ls hM hS (lv_sub hl [0, 1, 2, 3] rfl) h
        · have h := h.2 c8
          refine lv_dload S.1 S.2.1 dX10_bitsOf_34 (lv_at hl 2 rfl) ?_
          refine lv_ldc2d (v := 4611686018427387904) S.1 S.2.1 S.2.2.2.1 (S.2.2.2.2 _ tw_1331) dX10_bitsOf_36 ?_
          obtain ⟨g9, h⟩ := h
          refine lv_ddiv S.1 S.2.1 dX10_bitsOf_39 g9 ?_
          refine lv_dstore (lv' := [(4, .double (FP.ddiv x4 (4611686018427387904 : UInt64))), (2, .int x2), (3, .int x3), (6, .int x6), (7, .int x7)]) S.1 S.2.1 dX10_bitsOf_40 hl (by decide) rfl (fun ls hl => ?_)
          refine lv_iinc (v := (x6 + nI 1)) (lv' := [(6, .int (x6 + nI 1)), (4, .double (FP.ddiv x4 (4611686018427387904 : UInt64))), (2, .int x2), (3, .int x3), (7, .int x7)]) S.1 S.2.1 dX10_bitsOf_42 hl (k := 3) rfl rfl (by decide) rfl (fun ls hl => ?_)
          refine lv_iinc (v := (x7 + nI 1)) (lv' := [(7, .int (x7 + nI 1)), (6, .int (x6 + nI 1)), (4, .double (FP.ddiv x4 (4611686018427387904 : UInt64))), (2, .int x2), (3, .int x3)]) S.1 S.2.1 dX10_bitsOf_45 hl (k := 4) rfl rfl (by decide) rfl (fun ls hl => ?_)
          refine lv_goto (tgt := 17) S.1 S.2.1 dX10_bitsOf_48 (by decide) ?_
          exact ih x2 x3 (FP.ddiv x4 (4611686018427387904 : UInt64)) (x6 + nI 1) (x7 + nI 1) H locs ls hM hS (lv_sub hl [3, 4, 2, 1, 0] rfl) h
  intro H locs ls hM hS hl
  have hl : lv_has ls 9 [(0, .double x0), (2, .int x2), (3, .int x3)] := hl
  unfold w_X10_bitsOf at h
  refine lv_dload_n S.1 S.2.1 dX10_bitsOf_0 rfl (lv_at hl 0 rfl) ?_
  refine lv_dconst0 S.1 S.2.1 dX10_bitsOf_1 ?_
  refine lv_dcmp S.1 S.2.1 dX10_bitsOf_2 ?_
  refine lv_if_gt (tgt := 8) S.1 S.2.1 dX10_bitsOf_3 (by decide) (fun c1 => ?_) (fun c1 => ?_)
  · have h := h.1 c1
    refine lv_dload_n S.1 S.2.1 dX10_bitsOf_8 rfl (lv_at hl 0 rfl) ?_
    refine lv_dstore (lv' := [(4, .double x0), (0, .double x0), (2, .int x2), (3, .int x3)]) S.1 S.2.1 dX10_bitsOf_9 hl (by decide) rfl (fun ls hl => ?_)
    refine lv_iconst (v := (nI 0)) S.1 S.2.1 dX10_bitsOf_11 (by decide) ?_
    refine lv_istore (lv' := [(6, .int (nI 0)), (4, .double x0), (0, .double x0), (2, .int x2), (3, .int x3)]) S.1 S.2.1 dX10_bitsOf_12 hl (by decide) rfl (fun ls hl => ?_)
    refine lv_iconst (v := (nI 0)) S.1 S.2.1 dX10_bitsOf_14 (by decide) ?_
    refine lv_istore (lv' := [(7, .int (nI 0)), (6, .int (nI 0)), (4, .double x0), (0, .double x0), (2, .int x2), (3, .int x3)]) S.1 S.2.1 dX10_bitsOf_15 hl (by decide) rfl (fun ls hl => ?_)
    obtain ⟨n9, h⟩ := h
    exact hB17  n9 x2 x3 x0 (nI 0) (nI 0) H locs ls hM hS (lv_sub hl [4, 5, 2, 1, 0] rfl) h
  · have h := h.2 c1
    refine lv_lconst (v := lN 0) S.1 S.2.1 dX10_bitsOf_6 rfl ?_
    exact mz_lret S hr hlk hM hS (Nat.le_of_ble_eq_true rfl) (Nat.le_of_ble_eq_true rfl) dX10_bitsOf_7 ⟨_, rfl, rfl, h⟩
set_option maxRecDepth 100000 in
set_option maxHeartbeats 4000000 in
theorem c_X10_meanAttemptsBits {l : Launch} {G : mgT} {μ : mmT} {o : Nat} {Q : Int64 → Prop} {X : String → Prop} (hl0 : l.stackTraces = false) (h : w_X10_meanAttemptsBits G μ o Q X) : MX G l yX10_meanAttemptsBits cX10_meanAttemptsBits 1 (some .long) { frames := 6, cells := 1, slots := 6, locals := 100 } [.ref o] μ (pL (fun r μ' => μ' = μ ∧ Q r)) (fun E μ' => μ' = μ ∧ X E) := by
  refine mz_MX (by decide +kernel) (Nat.le_of_ble_eq_true rfl) (fun p e s m args below meth c S hG hr hlk hnm hex => ?_)
  intro H locs ls hM hS hl
  have hl : lv_has ls 1 [(0, .ref o)] := hl
  unfold w_X10_meanAttemptsBits at h
  refine lv_aload_n S.1 S.2.1 dX10_meanAttemptsBits_0 rfl (lv_at hl 0 rfl) ?_
  obtain ⟨k1, h⟩ := h
  refine mz_getr S hG hM cf_9 fd_288 tw_343 dX10_meanAttemptsBits_1 k1 ?_
  obtain ⟨a2, e3, h⟩ := h
  refine mz_o0 e3 ?_
  obtain ⟨k4, h⟩ := h
  refine mz_geti S hG hM cf_7 fd_230 tw_203 dX10_meanAttemptsBits_4 k4 ?_
  refine lv_if_ne (tgt := 21) S.1 S.2.1 dX10_meanAttemptsBits_7 (by decide) (fun c5 => ?_) (fun c5 => ?_)
  · have h := h.1 c5
    refine lv_aload_n S.1 S.2.1 dX10_meanAttemptsBits_21 rfl (lv_at hl 0 rfl) ?_
    refine mz_V S hG hM hS cf_9 k1 (As := []) (rest := []) (c_X10_meanOfAttempts h) yf_X10_meanOfAttempts tw_1312 tw_1314 ts_20 ⟨Nat.le_of_ble_eq_true rfl, Nat.le_of_ble_eq_true rfl⟩ ⟨(Nat.le_of_ble_eq_true rfl), (Nat.le_of_ble_eq_true rfl)⟩ rfl hl.1 rfl (Nat.le_of_ble_eq_true rfl) dX10_meanAttemptsBits_22 (fun v9 μ9 H locs hp hM hS => ?_)
    obtain ⟨u6, rfl, e9, h⟩ := hp
    rw [e9] at hM
    refine W.cs (cells' := 0) (slots' := 0) rfl rfl ?_
    refine lv_bipush (v := (nI 52)) S.1 S.2.1 dX10_meanAttemptsBits_25 (by decide) ?_
    refine lv_sipush (v := (nI 1023)) S.1 S.2.1 dX10_meanAttemptsBits_27 (by decide) ?_
    refine mz_S S hG hM hS (As := [.double u6, .int (nI 52), .int (nI 1023)]) (rest := []) (c_X10_bitsOf h) yf_X10_bitsOf tw_1328 tw_1329 ⟨Nat.le_of_ble_eq_true rfl, Nat.le_of_ble_eq_true rfl⟩ ⟨(Nat.le_of_ble_eq_true rfl), (Nat.le_of_ble_eq_true rfl)⟩ rfl hl.1 rfl (Nat.le_of_ble_eq_true rfl) dX10_meanAttemptsBits_30 (fun v9 μ9 H locs hp hM hS => ?_)
    obtain ⟨u7, rfl, e9, h⟩ := hp
    rw [e9] at hM
    refine W.cs (cells' := 0) (slots' := 0) rfl rfl ?_
    exact vx_ret (mz_lret S hr hlk hM hS (Nat.le_of_ble_eq_true rfl) (Nat.le_of_ble_eq_true rfl) dX10_meanAttemptsBits_33 ⟨_, rfl, rfl, h⟩)
  · have h := h.2 c5
    exact mz_throwW S hl0 hG hM hS hex hlk hl.1 xf_275_279 (j := 24) rfl dX10_meanAttemptsBits_10 dX10_meanAttemptsBits_13 dX10_meanAttemptsBits_14 dX10_meanAttemptsBits_17 dX10_meanAttemptsBits_20 (Nat.le_of_ble_eq_true rfl) (Nat.le_of_ble_eq_true rfl) (Nat.le_of_ble_eq_true rfl) (Nat.le_of_ble_eq_true rfl) (Nat.le_of_ble_eq_true rfl) (Nat.le_of_ble_eq_true rfl) ⟨rfl, h⟩
set_option maxRecDepth 100000 in
set_option maxHeartbeats 4000000 in
theorem c_X10_rateOfDeliveries {l : Launch} {G : mgT} {μ : mmT} {o : Nat} {Q : UInt32 → Prop} (h : w_X10_rateOfDeliveries G μ o Q) : MC G l yX10_rateOfDeliveries cX10_rateOfDeliveries 1 (some .float) { frames := 0, cells := 0, slots := 0, locals := 0 } [.ref o] μ (pF (fun r μ' => μ' = μ ∧ Q r)) := by
  refine mz_MC (by decide +kernel) (Nat.le_of_ble_eq_true rfl) (fun p e s m args below meth c S hG hr hlk hnm => ?_)
  intro H locs ls hM hS hl
  have hl : lv_has ls 1 [(0, .ref o)] := hl
  unfold w_X10_rateOfDeliveries at h
  refine lv_aload_n S.1 S.2.1 dX10_rateOfDeliveries_0 rfl (lv_at hl 0 rfl) ?_
  obtain ⟨k1, h⟩ := h
  refine mz_getr S hG hM cf_9 fd_288 tw_343 dX10_rateOfDeliveries_1 k1 ?_
  obtain ⟨a2, e3, h⟩ := h
  refine mz_o0 e3 ?_
  obtain ⟨k4, h⟩ := h
  refine mz_getr S hG hM cf_7 fd_227 tw_197 dX10_rateOfDeliveries_4 k4 ?_
  obtain ⟨a5, e6, h⟩ := h
  refine mz_o0 e6 ?_
  obtain ⟨k7, h⟩ := h
  refine mz_geti S hG hM cf_8 fd_257 tw_67 dX10_rateOfDeliveries_7 k7 ?_
  refine lv_i2f S.1 S.2.1 dX10_rateOfDeliveries_10 ?_
  refine lv_aload_n S.1 S.2.1 dX10_rateOfDeliveries_11 rfl (lv_at hl 0 rfl) ?_
  refine mz_getr S hG hM cf_9 fd_288 tw_343 dX10_rateOfDeliveries_12 k1 ?_
  refine mz_o0 e3 ?_
  refine mz_getr S hG hM cf_7 fd_227 tw_197 dX10_rateOfDeliveries_15 k4 ?_
  refine mz_o0 e6 ?_
  refine mz_geti S hG hM cf_8 fd_262 tw_81 dX10_rateOfDeliveries_18 k7 ?_
  refine lv_i2f S.1 S.2.1 dX10_rateOfDeliveries_21 ?_
  obtain ⟨g8, h⟩ := h
  refine lv_fdiv S.1 S.2.1 dX10_rateOfDeliveries_22 g8 ?_
  exact mz_fret S hr hlk hM hS (Nat.le_of_ble_eq_true rfl) (Nat.le_of_ble_eq_true rfl) dX10_rateOfDeliveries_23 ⟨_, rfl, rfl, h⟩
set_option maxRecDepth 100000 in
set_option maxHeartbeats 4000000 in
theorem c_X10_deliveryRate {l : Launch} {G : mgT} {μ : mmT} {o : Nat} {Q : UInt32 → Prop} {X : String → Prop} (hl0 : l.stackTraces = false) (h : w_X10_deliveryRate G μ o Q X) : MX G l yX10_deliveryRate cX10_deliveryRate 1 (some .float) { frames := 6, cells := 1, slots := 6, locals := 100 } [.ref o] μ (pF (fun r μ' => μ' = μ ∧ Q r)) (fun E μ' => μ' = μ ∧ X E) := by
  refine mz_MX (by decide +kernel) (Nat.le_of_ble_eq_true rfl) (fun p e s m args below meth c S hG hr hlk hnm hex => ?_)
  intro H locs ls hM hS hl
  have hl : lv_has ls 1 [(0, .ref o)] := hl
  unfold w_X10_deliveryRate at h
  refine lv_aload_n S.1 S.2.1 dX10_deliveryRate_0 rfl (lv_at hl 0 rfl) ?_
  obtain ⟨k1, h⟩ := h
  refine mz_getr S hG hM cf_9 fd_288 tw_343 dX10_deliveryRate_1 k1 ?_
  obtain ⟨a2, e3, h⟩ := h
  refine mz_o0 e3 ?_
  obtain ⟨k4, h⟩ := h
  refine mz_getr S hG hM cf_7 fd_227 tw_197 dX10_deliveryRate_4 k4 ?_
  obtain ⟨a5, e6, h⟩ := h
  refine mz_o0 e6 ?_
  obtain ⟨k7, h⟩ := h
  refine mz_geti S hG hM cf_8 fd_262 tw_81 dX10_deliveryRate_7 k7 ?_
  refine lv_if_ne (tgt := 24) S.1 S.2.1 dX10_deliveryRate_10 (by decide) (fun c8 => ?_) (fun c8 => ?_)
  · have h := h.1 c8
    refine lv_aload_n S.1 S.2.1 dX10_deliveryRate_24 rfl (lv_at hl 0 rfl) ?_
    refine mz_V S hG hM hS cf_9 k1 (As := []) (rest := []) (c_X10_rateOfDeliveries h) yf_X10_rateOfDeliveries tw_1351 tw_1353 ts_21 ⟨Nat.le_of_ble_eq_true rfl, Nat.le_of_ble_eq_true rfl⟩ ⟨(Nat.le_of_ble_eq_true rfl), (Nat.le_of_ble_eq_true rfl)⟩ rfl hl.1 rfl (Nat.le_of_ble_eq_true rfl) dX10_deliveryRate_25 (fun v9 μ9 H locs hp hM hS => ?_)
    obtain ⟨u9, rfl, e9, h⟩ := hp
    rw [e9] at hM
    refine W.cs (cells' := 0) (slots' := 0) rfl rfl ?_
    exact vx_ret (mz_fret S hr hlk hM hS (Nat.le_of_ble_eq_true rfl) (Nat.le_of_ble_eq_true rfl) dX10_deliveryRate_28 ⟨_, rfl, rfl, h⟩)
  · have h := h.2 c8
    exact mz_throwW S hl0 hG hM hS hex hlk hl.1 xf_275_279 (j := 25) rfl dX10_deliveryRate_13 dX10_deliveryRate_16 dX10_deliveryRate_17 dX10_deliveryRate_20 dX10_deliveryRate_23 (Nat.le_of_ble_eq_true rfl) (Nat.le_of_ble_eq_true rfl) (Nat.le_of_ble_eq_true rfl) (Nat.le_of_ble_eq_true rfl) (Nat.le_of_ble_eq_true rfl) (Nat.le_of_ble_eq_true rfl) ⟨rfl, h⟩
set_option maxRecDepth 100000 in
set_option maxHeartbeats 4000000 in
theorem c_X10_deliveryRateBits {l : Launch} {G : mgT} {μ : mmT} {o : Nat} {Q : Int32 → Prop} {X : String → Prop} (hl0 : l.stackTraces = false) (h : w_X10_deliveryRateBits G μ o Q X) : MX G l yX10_deliveryRateBits cX10_deliveryRateBits 1 (some .int) { frames := 6, cells := 1, slots := 6, locals := 100 } [.ref o] μ (pI (fun r μ' => μ' = μ ∧ Q r)) (fun E μ' => μ' = μ ∧ X E) := by
  refine mz_MX (by decide +kernel) (Nat.le_of_ble_eq_true rfl) (fun p e s m args below meth c S hG hr hlk hnm hex => ?_)
  intro H locs ls hM hS hl
  have hl : lv_has ls 1 [(0, .ref o)] := hl
  unfold w_X10_deliveryRateBits at h
  refine lv_aload_n S.1 S.2.1 dX10_deliveryRateBits_0 rfl (lv_at hl 0 rfl) ?_
  obtain ⟨k1, h⟩ := h
  refine mz_getr S hG hM cf_9 fd_288 tw_343 dX10_deliveryRateBits_1 k1 ?_
  obtain ⟨a2, e3, h⟩ := h
  refine mz_o0 e3 ?_
  obtain ⟨k4, h⟩ := h
  refine mz_getr S hG hM cf_7 fd_227 tw_197 dX10_deliveryRateBits_4 k4 ?_
  obtain ⟨a5, e6, h⟩ := h
  refine mz_o0 e6 ?_
  obtain ⟨k7, h⟩ := h
  refine mz_geti S hG hM cf_8 fd_262 tw_81 dX10_deliveryRateBits_7 k7 ?_
  refine lv_if_ne (tgt := 24) S.1 S.2.1 dX10_deliveryRateBits_10 (by decide) (fun c8 => ?_) (fun c8 => ?_)
  · have h := h.1 c8
    refine lv_aload_n S.1 S.2.1 dX10_deliveryRateBits_24 rfl (lv_at hl 0 rfl) ?_
    refine mz_V S hG hM hS cf_9 k1 (As := []) (rest := []) (c_X10_rateOfDeliveries h) yf_X10_rateOfDeliveries tw_1351 tw_1353 ts_21 ⟨Nat.le_of_ble_eq_true rfl, Nat.le_of_ble_eq_true rfl⟩ ⟨(Nat.le_of_ble_eq_true rfl), (Nat.le_of_ble_eq_true rfl)⟩ rfl hl.1 rfl (Nat.le_of_ble_eq_true rfl) dX10_deliveryRateBits_25 (fun v9 μ9 H locs hp hM hS => ?_)
    obtain ⟨u9, rfl, e9, h⟩ := hp
    rw [e9] at hM
    refine W.cs (cells' := 0) (slots' := 0) rfl rfl ?_
    obtain ⟨g10, h⟩ := h
    refine lv_f2d S.1 S.2.1 dX10_deliveryRateBits_28 g10 ?_
    refine lv_bipush (v := (nI 23)) S.1 S.2.1 dX10_deliveryRateBits_29 (by decide) ?_
    refine lv_bipush (v := (nI 127)) S.1 S.2.1 dX10_deliveryRateBits_31 (by decide) ?_
    refine mz_S S hG hM hS (As := [.double (FP.f2d u9), .int (nI 23), .int (nI 127)]) (rest := []) (c_X10_bitsOf h) yf_X10_bitsOf tw_1328 tw_1329 ⟨Nat.le_of_ble_eq_true rfl, Nat.le_of_ble_eq_true rfl⟩ ⟨(Nat.le_of_ble_eq_true rfl), (Nat.le_of_ble_eq_true rfl)⟩ rfl hl.1 rfl (Nat.le_of_ble_eq_true rfl) dX10_deliveryRateBits_33 (fun v9 μ9 H locs hp hM hS => ?_)
    obtain ⟨u11, rfl, e9, h⟩ := hp
    rw [e9] at hM
    refine W.cs (cells' := 0) (slots' := 0) rfl rfl ?_
    refine lv_l2i S.1 S.2.1 dX10_deliveryRateBits_36 rfl ?_
    exact vx_ret (mz_iret S hr hlk hM hS rfl (Nat.le_of_ble_eq_true rfl) (Nat.le_of_ble_eq_true rfl) dX10_deliveryRateBits_37 ⟨_, rfl, rfl, h⟩)
  · have h := h.2 c8
    exact mz_throwW S hl0 hG hM hS hex hlk hl.1 xf_275_279 (j := 25) rfl dX10_deliveryRateBits_13 dX10_deliveryRateBits_16 dX10_deliveryRateBits_17 dX10_deliveryRateBits_20 dX10_deliveryRateBits_23 (Nat.le_of_ble_eq_true rfl) (Nat.le_of_ble_eq_true rfl) (Nat.le_of_ble_eq_true rfl) (Nat.le_of_ble_eq_true rfl) (Nat.le_of_ble_eq_true rfl) (Nat.le_of_ble_eq_true rfl) ⟨rfl, h⟩
set_option maxRecDepth 100000 in
set_option maxHeartbeats 4000000 in
theorem c_X10_napLengthsAgree {l : Launch} {G : mgT} {μ : mmT} {Q : Int32 → Prop} (h : w_X10_napLengthsAgree G μ Q) : MC G l yX10_napLengthsAgree cX10_napLengthsAgree 1 (some .boolean) { frames := 1, cells := 0, slots := 0, locals := 23 } [] μ (pI (fun r μ' => μ' = μ ∧ Q r)) := by
  refine mz_MC (by decide +kernel) (Nat.le_of_ble_eq_true rfl) (fun p e s m args below meth c S hG hr hlk hnm => ?_)
  have hB2 : ∀ (n : Nat) (x0 : Int32) (H : Heap) (locs : List Loc) (ls : Array Slot), Mm G μ H → va_S (Ah G) s.heap H locs → lv_has ls 1 [(0, .int x0)] → w_X10_napLengthsAgree_l2 G μ Q  n x0 → W p l e { frames := 1, cells := 0, slots := 0, locals := 23 } s m args below meth c H locs (0) (0) (MQ below (mQ G (pI (fun r μ' => μ' = μ ∧ Q r))) args s 0 0 (Ah G)) (F0 m 2 ls []) := by
    intro  n
    induction n with
    | zero =>
      intro x0 H locs ls hM hS hl h
      exact False.elim h
    | succ n ih =>
      intro x0 H locs ls hM hS hl h
      have h : w_X10_napLengthsAgree_b2 G μ Q  (w_X10_napLengthsAgree_l2 G μ Q  n) x0 := h
      unfold w_X10_napLengthsAgree_b2 at h
      refine lv_iload_n S.1 S.2.1 dX10_napLengthsAgree_2 rfl (lv_at hl 0 rfl) ?_
      refine lv_bipush (v := (nI 40)) S.1 S.2.1 dX10_napLengthsAgree_3 (by decide) ?_
      refine lv_icmp_gt (tgt := 28) S.1 S.2.1 dX10_napLengthsAgree_5 (by decide) (fun c1 => ?_) (fun c1 => ?_)
      · have h := h.1 c1
        refine lv_iconst (v := (nI 1)) S.1 S.2.1 dX10_napLengthsAgree_28 (by decide) ?_
        exact mz_iret S hr hlk hM hS rfl (Nat.le_of_ble_eq_true rfl) (Nat.le_of_ble_eq_true rfl) dX10_napLengthsAgree_29 ⟨_, rfl, rfl, h⟩
      · have h := h.2 c1
        refine lv_iload_n S.1 S.2.1 dX10_napLengthsAgree_8 rfl (lv_at hl 0 rfl) ?_
        refine mz_S S hG hM hS (As := [.int x0]) (rest := []) (c_X10_shiftedNap h) yf_X10_shiftedNap tw_1236 tw_605 ⟨Nat.le_of_ble_eq_true rfl, Nat.le_of_ble_eq_true rfl⟩ ⟨(Nat.le_of_ble_eq_true rfl), (Nat.le_of_ble_eq_true rfl)⟩ rfl hl.1 rfl (Nat.le_of_ble_eq_true rfl) dX10_napLengthsAgree_9 (fun v9 μ9 H locs hp hM hS => ?_)
        obtain ⟨u2, rfl, e9, h⟩ := hp
        rw [e9] at hM
        refine W.cs (cells' := 0) (slots' := 0) rfl rfl ?_
        refine lv_iload_n S.1 S.2.1 dX10_napLengthsAgree_12 rfl (lv_at hl 0 rfl) ?_
        refine mz_S S hG hM hS (As := [.int x0]) (rest := [.long u2]) (c_X10_doubledNap h) yf_X10_doubledNap tw_1284 tw_1285 ⟨Nat.le_of_ble_eq_true rfl, Nat.le_of_ble_eq_true rfl⟩ ⟨(Nat.le_of_ble_eq_true rfl), (Nat.le_of_ble_eq_true rfl)⟩ rfl hl.1 rfl (Nat.le_of_ble_eq_true rfl) dX10_napLengthsAgree_13 (fun v9 μ9 H locs hp hM hS => ?_)
        obtain ⟨u3, rfl, e9, h⟩ := hp
        rw [e9] at hM
        refine W.cs (cells' := 0) (slots' := 0) rfl rfl ?_
        refine W.lcmp S.1 S.2.1 dX10_napLengthsAgree_16 ?_
        refine lv_if_eq (tgt := 22) S.1 S.2.1 dX10_napLengthsAgree_17 (by decide) (fun c4 => ?_) (fun c4 => ?_)
        · have h := h.1 c4
          refine lv_iinc (v := (x0 + nI 1)) (lv' := [(0, .int (x0 + nI 1))]) S.1 S.2.1 dX10_napLengthsAgree_22 hl (k := 0) rfl rfl (by decide) rfl (fun ls hl => ?_)
          refine lv_goto (tgt := 2) S.1 S.2.1 dX10_napLengthsAgree_25 (by decide) ?_
          exact ih (x0 + nI 1) H locs ls hM hS (lv_sub hl [0] rfl) h
        · have h := h.2 c4
          refine lv_iconst (v := (nI 0)) S.1 S.2.1 dX10_napLengthsAgree_20 (by decide) ?_
          exact mz_iret S hr hlk hM hS rfl (Nat.le_of_ble_eq_true rfl) (Nat.le_of_ble_eq_true rfl) dX10_napLengthsAgree_21 ⟨_, rfl, rfl, h⟩
  intro H locs ls hM hS hl
  have hl : lv_has ls 1 [] := hl
  unfold w_X10_napLengthsAgree at h
  refine lv_iconst (v := (nI 0)) S.1 S.2.1 dX10_napLengthsAgree_0 (by decide) ?_
  refine lv_istore_n (lv' := [(0, .int (nI 0))]) S.1 S.2.1 dX10_napLengthsAgree_1 rfl hl (by decide) rfl (fun ls hl => ?_)
  obtain ⟨n9, h⟩ := h
  exact hB2  n9 (nI 0) H locs ls hM hS (lv_sub hl [0] rfl) h
set_option maxRecDepth 100000 in
set_option maxHeartbeats 4000000 in
theorem c_X10_isConsistent {l : Launch} {G : mgT} {μ : mmT} {o : Nat} {Q : Int32 → Prop} (h : w_X10_isConsistent G μ o Q) : MC G l yX10_isConsistent cX10_isConsistent 1 (some .boolean) { frames := 2, cells := 0, slots := 0, locals := 43 } [.ref o] μ (pI (fun r μ' => μ' = μ ∧ Q r)) := by
  refine mz_MC (by decide +kernel) (Nat.le_of_ble_eq_true rfl) (fun p e s m args below meth c S hG hr hlk hnm => ?_)
  have hB69 : ∀ (s0 : Int32) (H : Heap) (locs : List Loc) (ls : Array Slot), Mm G μ H → va_S (Ah G) s.heap H locs → lv_has ls 1 [(0, .ref o)] → w_X10_isConsistent_b69 G μ o Q  s0 → W p l e { frames := 2, cells := 0, slots := 0, locals := 43 } s m args below meth c H locs (0) (0) (MQ below (mQ G (pI (fun r μ' => μ' = μ ∧ Q r))) args s 0 0 (Ah G)) (F0 m 69 ls [.int s0]) := by
    intro  s0 H locs ls hM hS hl h
    unfold w_X10_isConsistent_b69 at h
    obtain ⟨f3, h⟩ := h
    exact mz_iret S hr hlk hM hS (mz_nZ f3) (Nat.le_of_ble_eq_true rfl) (Nat.le_of_ble_eq_true rfl) dX10_isConsistent_69 ⟨_, rfl, rfl, h⟩
  have hB68 : ∀  (H : Heap) (locs : List Loc) (ls : Array Slot), Mm G μ H → va_S (Ah G) s.heap H locs → lv_has ls 1 [(0, .ref o)] → w_X10_isConsistent_b68 G μ o Q   → W p l e { frames := 2, cells := 0, slots := 0, locals := 43 } s m args below meth c H locs (0) (0) (MQ below (mQ G (pI (fun r μ' => μ' = μ ∧ Q r))) args s 0 0 (Ah G)) (F0 m 68 ls []) := by
    intro   H locs ls hM hS hl h
    unfold w_X10_isConsistent_b68 at h
    refine lv_iconst (v := (nI 0)) S.1 S.2.1 dX10_isConsistent_68 (by decide) ?_
    exact hB69  (nI 0) H locs ls hM hS (lv_sub hl [0] rfl) h
  intro H locs ls hM hS hl
  have hl : lv_has ls 1 [(0, .ref o)] := hl
  unfold w_X10_isConsistent at h
  refine mz_S S hG hM hS (As := []) (rest := []) (c_X10_napLengthsAgree h) yf_X10_napLengthsAgree tw_1385 tw_1386 ⟨Nat.le_of_ble_eq_true rfl, Nat.le_of_ble_eq_true rfl⟩ ⟨(Nat.le_of_ble_eq_true rfl), (Nat.le_of_ble_eq_true rfl)⟩ rfl hl.1 rfl (Nat.le_of_ble_eq_true rfl) dX10_isConsistent_0 (fun v9 μ9 H locs hp hM hS => ?_)
  obtain ⟨u1, rfl, e9, h⟩ := hp
  rw [e9] at hM
  refine W.cs (cells' := 0) (slots' := 0) rfl rfl ?_
  refine lv_if_eq (tgt := 68) S.1 S.2.1 dX10_isConsistent_3 (by decide) (fun c2 => ?_) (fun c2 => ?_)
  · have h := h.1 c2
    exact hB68   H locs ls hM hS (lv_sub hl [0] rfl) h
  · have h := h.2 c2
    refine lv_aload_n S.1 S.2.1 dX10_isConsistent_6 rfl (lv_at hl 0 rfl) ?_
    obtain ⟨k4, h⟩ := h
    refine mz_getr S hG hM cf_9 fd_288 tw_343 dX10_isConsistent_7 k4 ?_
    obtain ⟨a5, e6, h⟩ := h
    refine mz_o0 e6 ?_
    obtain ⟨k7, h⟩ := h
    refine mz_geti S hG hM cf_7 fd_230 tw_203 dX10_isConsistent_10 k7 ?_
    refine lv_aload_n S.1 S.2.1 dX10_isConsistent_13 rfl (lv_at hl 0 rfl) ?_
    refine mz_getr S hG hM cf_9 fd_288 tw_343 dX10_isConsistent_14 k4 ?_
    refine mz_o0 e6 ?_
    refine mz_getr S hG hM cf_7 fd_227 tw_197 dX10_isConsistent_17 k7 ?_
    obtain ⟨a8, e9, h⟩ := h
    refine mz_o0 e9 ?_
    obtain ⟨k10, h⟩ := h
    refine mz_V S hG hM hS cf_8 k10 (As := []) (rest := [.int (mI μ 230 a5)]) (c_X9_existing h) yf_X9_existing tw_1377 tw_1378 tw_1379 ⟨Nat.le_of_ble_eq_true rfl, Nat.le_of_ble_eq_true rfl⟩ ⟨(Nat.le_of_ble_eq_true rfl), (Nat.le_of_ble_eq_true rfl)⟩ rfl hl.1 rfl (Nat.le_of_ble_eq_true rfl) dX10_isConsistent_20 (fun v9 μ9 H locs hp hM hS => ?_)
    obtain ⟨u11, rfl, e9, h⟩ := hp
    rw [e9] at hM
    refine W.cs (cells' := 0) (slots' := 0) rfl rfl ?_
    refine lv_icmp_ne (tgt := 68) S.1 S.2.1 dX10_isConsistent_23 (by decide) (fun c12 => ?_) (fun c12 => ?_)
    · have h := h.1 c12
      exact hB68   H locs ls hM hS (lv_sub hl [0] rfl) h
    · have h := h.2 c12
      refine lv_aload_n S.1 S.2.1 dX10_isConsistent_26 rfl (lv_at hl 0 rfl) ?_
      refine mz_getr S hG hM cf_9 fd_288 tw_343 dX10_isConsistent_27 k4 ?_
      refine lv_bipush (v := (nI 102)) S.1 S.2.1 dX10_isConsistent_30 (by decide) ?_
      refine mz_o1 e6 ?_
      refine mz_V S hG hM hS cf_7 k7 (As := [.int (nI 102)]) (rest := []) (c_X8_messagesWithStatus h) yf_X8_messagesWithStatus tw_1388 tw_1389 tw_1390 ⟨Nat.le_of_ble_eq_true rfl, Nat.le_of_ble_eq_true rfl⟩ ⟨(Nat.le_of_ble_eq_true rfl), (Nat.le_of_ble_eq_true rfl)⟩ rfl hl.1 rfl (Nat.le_of_ble_eq_true rfl) dX10_isConsistent_32 (fun v9 μ9 H locs hp hM hS => ?_)
      obtain ⟨u13, rfl, e9, h⟩ := hp
      rw [e9] at hM
      refine W.cs (cells' := 0) (slots' := 0) rfl rfl ?_
      refine lv_aload_n S.1 S.2.1 dX10_isConsistent_35 rfl (lv_at hl 0 rfl) ?_
      refine mz_getr S hG hM cf_9 fd_288 tw_343 dX10_isConsistent_36 k4 ?_
      refine mz_o0 e6 ?_
      refine mz_V S hG hM hS cf_7 k7 (As := []) (rest := [.int u13]) (c_X8_flyingCrows h) yf_X8_flyingCrows tw_1392 tw_1393 tw_1394 ⟨Nat.le_of_ble_eq_true rfl, Nat.le_of_ble_eq_true rfl⟩ ⟨(Nat.le_of_ble_eq_true rfl), (Nat.le_of_ble_eq_true rfl)⟩ rfl hl.1 rfl (Nat.le_of_ble_eq_true rfl) dX10_isConsistent_39 (fun v9 μ9 H locs hp hM hS => ?_)
      obtain ⟨u14, rfl, e9, h⟩ := hp
      rw [e9] at hM
      refine W.cs (cells' := 0) (slots' := 0) rfl rfl ?_
      refine lv_icmp_ne (tgt := 68) S.1 S.2.1 dX10_isConsistent_42 (by decide) (fun c15 => ?_) (fun c15 => ?_)
      · have h := h.1 c15
        exact hB68   H locs ls hM hS (lv_sub hl [0] rfl) h
      · have h := h.2 c15
        refine lv_aload_n S.1 S.2.1 dX10_isConsistent_45 rfl (lv_at hl 0 rfl) ?_
        refine mz_getr S hG hM cf_9 fd_288 tw_343 dX10_isConsistent_46 k4 ?_
        refine lv_bipush (v := (nI 100)) S.1 S.2.1 dX10_isConsistent_49 (by decide) ?_
        refine mz_o1 e6 ?_
        refine mz_V S hG hM hS cf_7 k7 (As := [.int (nI 100)]) (rest := []) (c_X8_messagesWithStatus h) yf_X8_messagesWithStatus tw_1388 tw_1389 tw_1390 ⟨Nat.le_of_ble_eq_true rfl, Nat.le_of_ble_eq_true rfl⟩ ⟨(Nat.le_of_ble_eq_true rfl), (Nat.le_of_ble_eq_true rfl)⟩ rfl hl.1 rfl (Nat.le_of_ble_eq_true rfl) dX10_isConsistent_51 (fun v9 μ9 H locs hp hM hS => ?_)
        obtain ⟨u16, rfl, e9, h⟩ := hp
        rw [e9] at hM
        refine W.cs (cells' := 0) (slots' := 0) rfl rfl ?_
        refine lv_aload_n S.1 S.2.1 dX10_isConsistent_54 rfl (lv_at hl 0 rfl) ?_
        refine mz_getr S hG hM cf_9 fd_288 tw_343 dX10_isConsistent_55 k4 ?_
        refine mz_o0 e6 ?_
        refine mz_V S hG hM hS cf_7 k7 (As := []) (rest := [.int u16]) (c_X8_messagesInInboxes h) yf_X8_messagesInInboxes tw_1396 tw_1397 tw_1398 ⟨Nat.le_of_ble_eq_true rfl, Nat.le_of_ble_eq_true rfl⟩ ⟨(Nat.le_of_ble_eq_true rfl), (Nat.le_of_ble_eq_true rfl)⟩ rfl hl.1 rfl (Nat.le_of_ble_eq_true rfl) dX10_isConsistent_58 (fun v9 μ9 H locs hp hM hS => ?_)
        obtain ⟨u17, rfl, e9, h⟩ := hp
        rw [e9] at hM
        refine W.cs (cells' := 0) (slots' := 0) rfl rfl ?_
        refine lv_icmp_ne (tgt := 68) S.1 S.2.1 dX10_isConsistent_61 (by decide) (fun c18 => ?_) (fun c18 => ?_)
        · have h := h.1 c18
          exact hB68   H locs ls hM hS (lv_sub hl [0] rfl) h
        · have h := h.2 c18
          refine lv_iconst (v := (nI 1)) S.1 S.2.1 dX10_isConsistent_64 (by decide) ?_
          refine lv_goto (tgt := 69) S.1 S.2.1 dX10_isConsistent_65 (by decide) ?_
          exact hB69  (nI 1) H locs ls hM hS (lv_sub hl [0] rfl) h
set_option maxRecDepth 100000 in
set_option maxHeartbeats 4000000 in
theorem c_X10_type {l : Launch} {G : mgT} {μ : mmT} {o : Nat} {x1 : Int32} {Q : Int32 → mmT → Prop} {X : String → mmT → Prop} (hl0 : l.stackTraces = false) (h : w_X10_type G μ o x1 Q X) : MX G l yX10_type cX10_type 2 (some .int) { frames := 6, cells := 1, slots := 6, locals := 100 } [.ref o, .int x1] μ (pI Q) X := by
  refine mz_MX (by decide +kernel) (Nat.le_of_ble_eq_true rfl) (fun p e s m args below meth c S hG hr hlk hnm hex => ?_)
  have hB12 : ∀ (μ : mmT) (H : Heap) (locs : List Loc) (ls : Array Slot), Mm G μ H → va_S (Ah G) s.heap H locs → lv_has ls 2 [(0, .ref o)] → w_X10_type_b12 G o Q X  μ → W p l e { frames := 6, cells := 1, slots := 6, locals := 100 } s m args below meth c H locs (0) (0) (vx_MQ below (mQ G (pI Q)) (mX G X) args s 1 6 (Ah G)) (F0 m 12 ls []) := by
    intro  μ H locs ls hM hS hl h
    unfold w_X10_type_b12 at h
    exact mz_throwW S hl0 hG hM hS hex hlk hl.1 xf_91_95 (j := 15) rfl dX10_type_12 dX10_type_15 dX10_type_16 dX10_type_19 dX10_type_22 (Nat.le_of_ble_eq_true rfl) (Nat.le_of_ble_eq_true rfl) (Nat.le_of_ble_eq_true rfl) (Nat.le_of_ble_eq_true rfl) (Nat.le_of_ble_eq_true rfl) (Nat.le_of_ble_eq_true rfl) h
  intro H locs ls hM hS hl
  have hl : lv_has ls 2 [(0, .ref o), (1, .int x1)] := hl
  unfold w_X10_type at h
  refine lv_iload_n S.1 S.2.1 dX10_type_0 rfl (lv_at hl 1 rfl) ?_
  refine lv_bipush (v := (nI 32)) S.1 S.2.1 dX10_type_1 (by decide) ?_
  refine lv_icmp_lt (tgt := 12) S.1 S.2.1 dX10_type_3 (by decide) (fun c1 => ?_) (fun c1 => ?_)
  · have h := h.1 c1
    exact hB12  μ H locs ls hM hS (lv_sub hl [0] rfl) h
  · have h := h.2 c1
    refine lv_iload_n S.1 S.2.1 dX10_type_6 rfl (lv_at hl 1 rfl) ?_
    refine lv_bipush (v := (nI 126)) S.1 S.2.1 dX10_type_7 (by decide) ?_
    refine lv_icmp_le (tgt := 23) S.1 S.2.1 dX10_type_9 (by decide) (fun c2 => ?_) (fun c2 => ?_)
    · have h := h.1 c2
      refine lv_aload_n S.1 S.2.1 dX10_type_23 rfl (lv_at hl 0 rfl) ?_
      obtain ⟨k3, h⟩ := h
      refine mz_getr S hG hM cf_9 fd_293 tw_348 dX10_type_24 k3 ?_
      obtain ⟨a4, e5, h⟩ := h
      refine mz_o0 e5 ?_
      obtain ⟨k6, h⟩ := h
      refine mz_geti S hG hM cf_6 fd_194 tw_283 dX10_type_27 k6 ?_
      refine lv_bipush (v := (nI 60)) S.1 S.2.1 dX10_type_30 (by decide) ?_
      refine lv_icmp_lt (tgt := 46) S.1 S.2.1 dX10_type_32 (by decide) (fun c7 => ?_) (fun c7 => ?_)
      · have h := h.1 c7
        refine lv_aload_n S.1 S.2.1 dX10_type_46 rfl (lv_at hl 0 rfl) ?_
        refine mz_getr S hG hM cf_9 fd_293 tw_348 dX10_type_47 k3 ?_
        refine lv_iload_n S.1 S.2.1 dX10_type_50 rfl (lv_at hl 1 rfl) ?_
        refine mz_o1 e5 ?_
        refine mz_V S hG hM hS cf_6 k6 (As := [.int x1]) (rest := []) (c_X7_append h) yf_X7_append tw_1042 tw_1043 tw_1044 ⟨Nat.le_of_ble_eq_true rfl, Nat.le_of_ble_eq_true rfl⟩ ⟨(Nat.le_of_ble_eq_true rfl), (Nat.le_of_ble_eq_true rfl)⟩ rfl hl.1 rfl (Nat.le_of_ble_eq_true rfl) dX10_type_51 (fun v9 μ9 H locs hp hM hS => ?_)
        obtain ⟨u8, rfl, h⟩ := hp
        refine W.cs (cells' := 0) (slots' := 0) rfl rfl ?_
        exact vx_ret (mz_iret S hr hlk hM hS rfl (Nat.le_of_ble_eq_true rfl) (Nat.le_of_ble_eq_true rfl) dX10_type_54 ⟨_, rfl, h⟩)
      · have h := h.2 c7
        exact mz_throwW S hl0 hG hM hS hex hlk hl.1 xf_98_102 (j := 16) rfl dX10_type_35 dX10_type_38 dX10_type_39 dX10_type_42 dX10_type_45 (Nat.le_of_ble_eq_true rfl) (Nat.le_of_ble_eq_true rfl) (Nat.le_of_ble_eq_true rfl) (Nat.le_of_ble_eq_true rfl) (Nat.le_of_ble_eq_true rfl) (Nat.le_of_ble_eq_true rfl) h
    · have h := h.2 c2
      exact hB12  μ H locs ls hM hS (lv_sub hl [0] rfl) h
set_option maxRecDepth 100000 in
set_option maxHeartbeats 4000000 in
theorem c_X10_runScript {l : Launch} {G : mgT} {μ : mmT} {o : Nat} {Q : Int32 → mmT → Prop} {X : String → mmT → Prop} (hl0 : l.stackTraces = false) (h : w_X10_runScript G μ o Q X) : MX G l yX10_runScript cX10_runScript 3 (some .int) { frames := 7, cells := 1, slots := 6, locals := 193 } [.ref o] μ (pI Q) X := by
  refine mz_MX (by decide +kernel) (Nat.le_of_ble_eq_true rfl) (fun p e s m args below meth c S hG hr hlk hnm hex => ?_)
  have hB55 : ∀ (n : Nat) (x2 : Int32) (μ : mmT) (H : Heap) (locs : List Loc) (ls : Array Slot), Mm G μ H → va_S (Ah G) s.heap H locs → lv_has ls 3 [(0, .ref o), (2, .int x2)] → w_X10_runScript_l55 G o Q X  n x2 μ → W p l e { frames := 7, cells := 1, slots := 6, locals := 193 } s m args below meth c H locs (0) (0) (vx_MQ below (mQ G (pI Q)) (mX G X) args s 1 6 (Ah G)) (F0 m 55 ls []) := by
    intro  n
    induction n with
    | zero =>
      intro x2 μ H locs ls hM hS hl h
      exact False.elim h
    | succ n ih =>
      intro x2 μ H locs ls hM hS hl h
      have h : w_X10_runScript_b55 G o Q X  (w_X10_runScript_l55 G o Q X  n) x2 μ := h
      unfold w_X10_runScript_b55 at h
      refine lv_iload_n S.1 S.2.1 dX10_runScript_55 rfl (lv_at hl 1 rfl) ?_
      refine lv_aload_n S.1 S.2.1 dX10_runScript_56 rfl (lv_at hl 0 rfl) ?_
      obtain ⟨k16, h⟩ := h
      refine mz_getr S hG hM cf_9 fd_293 tw_348 dX10_runScript_57 k16 ?_
      obtain ⟨a17, e18, h⟩ := h
      refine mz_o0 e18 ?_
      obtain ⟨k19, h⟩ := h
      refine mz_geti S hG hM cf_6 fd_195 tw_285 dX10_runScript_60 k19 ?_
      refine lv_icmp_ge (tgt := 118) S.1 S.2.1 dX10_runScript_63 (by decide) (fun c20 => ?_) (fun c20 => ?_)
      · have h := h.1 c20
        refine lv_aload_n S.1 S.2.1 dX10_runScript_118 rfl (lv_at hl 0 rfl) ?_
        refine mz_getr S hG hM cf_9 fd_292 tw_347 dX10_runScript_119 k16 ?_
        refine lv_aload_n S.1 S.2.1 dX10_runScript_122 rfl (lv_at hl 0 rfl) ?_
        refine mz_getr S hG hM cf_9 fd_289 tw_344 dX10_runScript_123 k16 ?_
        obtain ⟨a21, e22, h⟩ := h
        refine mz_o1 e22 ?_
        obtain ⟨k23, h⟩ := h
        refine mz_V S hG hM hS cf_3 k23 (As := [va_rf (mR μ 289 o)]) (rest := []) (c_X4_remember h) yf_X4_remember tw_684 tw_685 tw_686 ⟨Nat.le_of_ble_eq_true rfl, Nat.le_of_ble_eq_true rfl⟩ ⟨(Nat.le_of_ble_eq_true rfl), (Nat.le_of_ble_eq_true rfl)⟩ rfl hl.1 rfl (Nat.le_of_ble_eq_true rfl) dX10_runScript_126 (fun v9 μ24 H locs hp hM hS => ?_)
        obtain ⟨rfl, h⟩ := hp
        refine W.cs (cells' := 0) (slots' := 0) rfl rfl ?_
        refine lv_aload_n S.1 S.2.1 dX10_runScript_129 rfl (lv_at hl 0 rfl) ?_
        obtain ⟨k25, h⟩ := h
        refine mz_getr S hG hM cf_9 fd_293 tw_348 dX10_runScript_130 k25 ?_
        obtain ⟨a26, e27, h⟩ := h
        refine mz_o0 e27 ?_
        obtain ⟨k28, h⟩ := h
        refine mz_geti S hG hM cf_6 fd_195 tw_285 dX10_runScript_133 k28 ?_
        exact vx_ret (mz_iret S hr hlk hM hS rfl (Nat.le_of_ble_eq_true rfl) (Nat.le_of_ble_eq_true rfl) dX10_runScript_136 ⟨_, rfl, h⟩)
      · have h := h.2 c20
        refine lv_aload_n S.1 S.2.1 dX10_runScript_66 rfl (lv_at hl 0 rfl) ?_
        refine mz_getr S hG hM cf_9 fd_288 tw_343 dX10_runScript_67 k16 ?_
        refine lv_aload_n S.1 S.2.1 dX10_runScript_70 rfl (lv_at hl 0 rfl) ?_
        refine mz_getr S hG hM cf_9 fd_293 tw_348 dX10_runScript_71 k16 ?_
        refine mz_o0 e18 ?_
        refine mz_getr S hG hM cf_6 fd_193 tw_281 dX10_runScript_74 k19 ?_
        refine lv_iload_n S.1 S.2.1 dX10_runScript_77 rfl (lv_at hl 1 rfl) ?_
        obtain ⟨a29, e30, h⟩ := h
        refine mz_o1 e30 ?_
        obtain ⟨k31, h⟩ := h
        obtain ⟨b32, h⟩ := h
        refine mz_aald (j := 5) S hG hM dX10_runScript_78 (by decide) rfl k31 b32 ?_
        obtain ⟨a33, e34, h⟩ := h
        refine mz_o1 e34 ?_
        obtain ⟨k35, h⟩ := h
        refine mz_V S hG hM hS cf_7 k35 (As := [va_rf (mB μ a29 x2.toNatClampNeg)]) (rest := []) (c_X8_perform h) yf_X8_perform tw_1083 tw_1084 tw_1085 ⟨Nat.le_of_ble_eq_true rfl, Nat.le_of_ble_eq_true rfl⟩ ⟨(Nat.le_of_ble_eq_true rfl), (Nat.le_of_ble_eq_true rfl)⟩ rfl hl.1 rfl (Nat.le_of_ble_eq_true rfl) dX10_runScript_79 (fun v9 μ37 H locs hp hM hS => ?_)
        obtain ⟨u36, rfl, h⟩ := hp
        refine W.cs (cells' := 0) (slots' := 0) rfl rfl ?_
        refine lv_if_ge (tgt := 112) S.1 S.2.1 dX10_runScript_82 (by decide) (fun c38 => ?_) (fun c38 => ?_)
        · have h := h.1 c38
          refine lv_iinc (v := (x2 + nI 1)) (lv' := [(2, .int (x2 + nI 1)), (0, .ref o)]) S.1 S.2.1 dX10_runScript_112 hl (k := 1) rfl rfl (by decide) rfl (fun ls hl => ?_)
          refine lv_goto (tgt := 55) S.1 S.2.1 dX10_runScript_115 (by decide) ?_
          exact ih (x2 + nI 1) μ37 H locs ls hM hS (lv_sub hl [1, 0] rfl) h
        · have h := h.2 c38
          refine lv_aload_n S.1 S.2.1 dX10_runScript_85 rfl (lv_at hl 0 rfl) ?_
          obtain ⟨k39, h⟩ := h
          refine mz_getr S hG hM cf_9 fd_288 tw_343 dX10_runScript_86 k39 ?_
          refine lv_aload_n S.1 S.2.1 dX10_runScript_89 rfl (lv_at hl 0 rfl) ?_
          refine mz_getr S hG hM cf_9 fd_289 tw_344 dX10_runScript_90 k39 ?_
          obtain ⟨a40, e41, h⟩ := h
          refine mz_o1 e41 ?_
          obtain ⟨k42, h⟩ := h
          refine mz_V S hG hM hS cf_7 k42 (As := [va_rf (mR μ37 289 o)]) (rest := []) (c_X8_copyFrom h) yf_X8_copyFrom tw_539 tw_540 tw_541 ⟨Nat.le_of_ble_eq_true rfl, Nat.le_of_ble_eq_true rfl⟩ ⟨(Nat.le_of_ble_eq_true rfl), (Nat.le_of_ble_eq_true rfl)⟩ rfl hl.1 rfl (Nat.le_of_ble_eq_true rfl) dX10_runScript_93 (fun v9 μ43 H locs hp hM hS => ?_)
          obtain ⟨rfl, h⟩ := hp
          refine W.cs (cells' := 0) (slots' := 0) rfl rfl ?_
          refine lv_aload_n S.1 S.2.1 dX10_runScript_96 rfl (lv_at hl 0 rfl) ?_
          refine lv_iload_n S.1 S.2.1 dX10_runScript_97 rfl (lv_at hl 1 rfl) ?_
          obtain ⟨k44, h⟩ := h
          refine mz_puti S hG hM hS cf_9 fd_297 tw_352 dX10_runScript_98 k44 rfl rfl (fun H locs hM hS hz9 => ?_)
          exact mz_throwW S hl0 hG hM hS hex hlk hl.1 xf_98_102 (j := 18) rfl dX10_runScript_101 dX10_runScript_104 dX10_runScript_105 dX10_runScript_108 dX10_runScript_111 (Nat.le_of_ble_eq_true rfl) (Nat.le_of_ble_eq_true rfl) (Nat.le_of_ble_eq_true rfl) (Nat.le_of_ble_eq_true rfl) (Nat.le_of_ble_eq_true rfl) (Nat.le_of_ble_eq_true rfl) h
  intro H locs ls hM hS hl
  have hl : lv_has ls 3 [(0, .ref o)] := hl
  unfold w_X10_runScript at h
  refine lv_aload_n S.1 S.2.1 dX10_runScript_0 rfl (lv_at hl 0 rfl) ?_
  obtain ⟨k1, h⟩ := h
  refine mz_getr S hG hM cf_9 fd_293 tw_348 dX10_runScript_1 k1 ?_
  obtain ⟨a2, e3, h⟩ := h
  refine mz_o0 e3 ?_
  obtain ⟨k4, h⟩ := h
  refine mz_V S hG hM hS cf_6 k4 (As := []) (rest := []) (c_X7_split h) yf_X7_split tw_1053 tw_1054 tw_1055 ⟨Nat.le_of_ble_eq_true rfl, Nat.le_of_ble_eq_true rfl⟩ ⟨(Nat.le_of_ble_eq_true rfl), (Nat.le_of_ble_eq_true rfl)⟩ rfl hl.1 rfl (Nat.le_of_ble_eq_true rfl) dX10_runScript_4 (fun v9 μ6 H locs hp hM hS => ?_)
  obtain ⟨u5, rfl, h⟩ := hp
  refine W.cs (cells' := 0) (slots' := 0) rfl rfl ?_
  refine lv_istore_n (lv' := [(1, .int u5), (0, .ref o)]) S.1 S.2.1 dX10_runScript_7 rfl hl (by decide) rfl (fun ls hl => ?_)
  refine lv_aload_n S.1 S.2.1 dX10_runScript_8 rfl (lv_at hl 1 rfl) ?_
  obtain ⟨k7, h⟩ := h
  refine mz_getr S hG hM cf_9 fd_293 tw_348 dX10_runScript_9 k7 ?_
  refine lv_iconst (v := (nI 0)) S.1 S.2.1 dX10_runScript_12 (by decide) ?_
  obtain ⟨a8, e9, h⟩ := h
  refine mz_o1 e9 ?_
  obtain ⟨k10, h⟩ := h
  refine mz_puti S hG hM hS cf_6 fd_194 tw_283 dX10_runScript_13 k10 rfl rfl (fun H locs hM hS hz9 => ?_)
  refine lv_iload_n S.1 S.2.1 dX10_runScript_16 rfl (lv_at hl 0 rfl) ?_
  refine lv_if_ne (tgt := 42) S.1 S.2.1 dX10_runScript_17 (by decide) (fun c11 => ?_) (fun c11 => ?_)
  · have h := h.1 c11
    refine lv_aload_n S.1 S.2.1 dX10_runScript_42 rfl (lv_at hl 1 rfl) ?_
    refine mz_getr S hG hM cf_9 fd_289 tw_344 dX10_runScript_43 k7 ?_
    refine lv_aload_n S.1 S.2.1 dX10_runScript_46 rfl (lv_at hl 1 rfl) ?_
    refine mz_getr S hG hM cf_9 fd_288 tw_343 dX10_runScript_47 k7 ?_
    obtain ⟨a12, e13, h⟩ := h
    refine mz_o1 e13 ?_
    obtain ⟨k14, h⟩ := h
    refine mz_V S hG hM hS cf_7 k14 (As := [va_rf (mR (sI μ6 194 a8 (nI 0)) 288 o)]) (rest := []) (c_X8_copyFrom h) yf_X8_copyFrom tw_539 tw_540 tw_541 ⟨Nat.le_of_ble_eq_true rfl, Nat.le_of_ble_eq_true rfl⟩ ⟨(Nat.le_of_ble_eq_true rfl), (Nat.le_of_ble_eq_true rfl)⟩ rfl hl.1 rfl (Nat.le_of_ble_eq_true rfl) dX10_runScript_50 (fun v9 μ15 H locs hp hM hS => ?_)
    obtain ⟨rfl, h⟩ := hp
    refine W.cs (cells' := 0) (slots' := 0) rfl rfl ?_
    refine lv_iconst (v := (nI 0)) S.1 S.2.1 dX10_runScript_53 (by decide) ?_
    refine lv_istore_n (lv' := [(2, .int (nI 0)), (1, .int u5), (0, .ref o)]) S.1 S.2.1 dX10_runScript_54 rfl hl (by decide) rfl (fun ls hl => ?_)
    obtain ⟨n9, h⟩ := h
    exact hB55  n9 (nI 0) μ15 H locs ls hM hS (lv_sub hl [2, 0] rfl) h
  · have h := h.2 c11
    refine lv_aload_n S.1 S.2.1 dX10_runScript_20 rfl (lv_at hl 1 rfl) ?_
    refine lv_aload_n S.1 S.2.1 dX10_runScript_21 rfl (lv_at hl 1 rfl) ?_
    refine mz_getr S hG hM cf_9 fd_293 tw_348 dX10_runScript_22 k7 ?_
    obtain ⟨a45, e46, h⟩ := h
    refine mz_o0 e46 ?_
    obtain ⟨k47, h⟩ := h
    refine mz_geti S hG hM cf_6 fd_196 tw_287 dX10_runScript_25 k47 ?_
    refine mz_puti S hG hM hS cf_9 fd_296 tw_351 dX10_runScript_28 k7 rfl rfl (fun H locs hM hS hz9 => ?_)
    exact mz_throwW S hl0 hG hM hS hex hlk hl.1 xf_91_95 (j := 17) rfl dX10_runScript_31 dX10_runScript_34 dX10_runScript_35 dX10_runScript_38 dX10_runScript_41 (Nat.le_of_ble_eq_true rfl) (Nat.le_of_ble_eq_true rfl) (Nat.le_of_ble_eq_true rfl) (Nat.le_of_ble_eq_true rfl) (Nat.le_of_ble_eq_true rfl) (Nat.le_of_ble_eq_true rfl) h
set_option maxRecDepth 100000 in
set_option maxHeartbeats 4000000 in
theorem c_X10_undo {l : Launch} {G : mgT} {μ : mmT} {o : Nat} {Q : Int32 → mmT → Prop} {X : String → mmT → Prop} (hl0 : l.stackTraces = false) (h : w_X10_undo G μ o Q X) : MX G l yX10_undo cX10_undo 1 (some .int) { frames := 6, cells := 1, slots := 6, locals := 124 } [.ref o] μ (pI Q) X := by
  refine mz_MX (by decide +kernel) (Nat.le_of_ble_eq_true rfl) (fun p e s m args below meth c S hG hr hlk hnm hex => ?_)
  intro H locs ls hM hS hl
  have hl : lv_has ls 1 [(0, .ref o)] := hl
  unfold w_X10_undo at h
  refine lv_aload_n S.1 S.2.1 dX10_undo_0 rfl (lv_at hl 0 rfl) ?_
  obtain ⟨k1, h⟩ := h
  refine mz_getr S hG hM cf_9 fd_292 tw_347 dX10_undo_1 k1 ?_
  obtain ⟨a2, e3, h⟩ := h
  refine mz_o0 e3 ?_
  obtain ⟨k4, h⟩ := h
  refine mz_geti S hG hM cf_3 fd_98 tw_239 dX10_undo_4 k4 ?_
  refine lv_if_ne (tgt := 21) S.1 S.2.1 dX10_undo_7 (by decide) (fun c5 => ?_) (fun c5 => ?_)
  · have h := h.1 c5
    refine lv_aload_n S.1 S.2.1 dX10_undo_21 rfl (lv_at hl 0 rfl) ?_
    refine mz_getr S hG hM cf_9 fd_292 tw_347 dX10_undo_22 k1 ?_
    refine lv_aload_n S.1 S.2.1 dX10_undo_25 rfl (lv_at hl 0 rfl) ?_
    refine mz_getr S hG hM cf_9 fd_288 tw_343 dX10_undo_26 k1 ?_
    refine mz_o1 e3 ?_
    refine mz_V S hG hM hS cf_3 k4 (As := [va_rf (mR μ 288 o)]) (rest := []) (c_X4_takeBackInto h) yf_X4_takeBackInto tw_1416 tw_1417 tw_1418 ⟨Nat.le_of_ble_eq_true rfl, Nat.le_of_ble_eq_true rfl⟩ ⟨(Nat.le_of_ble_eq_true rfl), (Nat.le_of_ble_eq_true rfl)⟩ rfl hl.1 rfl (Nat.le_of_ble_eq_true rfl) dX10_undo_29 (fun v9 μ6 H locs hp hM hS => ?_)
    obtain ⟨rfl, h⟩ := hp
    refine W.cs (cells' := 0) (slots' := 0) rfl rfl ?_
    refine lv_aload_n S.1 S.2.1 dX10_undo_32 rfl (lv_at hl 0 rfl) ?_
    obtain ⟨k7, h⟩ := h
    refine mz_getr S hG hM cf_9 fd_292 tw_347 dX10_undo_33 k7 ?_
    obtain ⟨a8, e9, h⟩ := h
    refine mz_o0 e9 ?_
    obtain ⟨k10, h⟩ := h
    refine mz_geti S hG hM cf_3 fd_98 tw_239 dX10_undo_36 k10 ?_
    exact vx_ret (mz_iret S hr hlk hM hS rfl (Nat.le_of_ble_eq_true rfl) (Nat.le_of_ble_eq_true rfl) dX10_undo_39 ⟨_, rfl, h⟩)
  · have h := h.2 c5
    exact mz_throwNW S hl0 hG hM hS hex hlk hl.1 xf_108_112 (j := 26) rfl dX10_undo_10 dX10_undo_13 dX10_undo_14 dX10_undo_17 dX10_undo_20 (Nat.le_of_ble_eq_true rfl) (Nat.le_of_ble_eq_true rfl) (Nat.le_of_ble_eq_true rfl) (Nat.le_of_ble_eq_true rfl) (Nat.le_of_ble_eq_true rfl) (Nat.le_of_ble_eq_true rfl) h
set_option maxRecDepth 100000 in
set_option maxHeartbeats 4000000 in
theorem c_X10_save {l : Launch} {G : mgT} {μ : mmT} {o : Nat} {Q : Int32 → mmT → Prop} (h : w_X10_save G μ o Q) : MC G l yX10_save cX10_save 1 (some .int) { frames := 3, cells := 0, slots := 0, locals := 103 } [.ref o] μ (pI Q) := by
  refine mz_MC (by decide +kernel) (Nat.le_of_ble_eq_true rfl) (fun p e s m args below meth c S hG hr hlk hnm => ?_)
  intro H locs ls hM hS hl
  have hl : lv_has ls 1 [(0, .ref o)] := hl
  unfold w_X10_save at h
  refine lv_aload_n S.1 S.2.1 dX10_save_0 rfl (lv_at hl 0 rfl) ?_
  obtain ⟨k1, h⟩ := h
  refine mz_getr S hG hM cf_9 fd_291 tw_346 dX10_save_1 k1 ?_
  refine lv_aload_n S.1 S.2.1 dX10_save_4 rfl (lv_at hl 0 rfl) ?_
  refine mz_getr S hG hM cf_9 fd_288 tw_343 dX10_save_5 k1 ?_
  obtain ⟨a2, e3, h⟩ := h
  refine mz_o1 e3 ?_
  obtain ⟨k4, h⟩ := h
  refine mz_V S hG hM hS cf_7 k4 (As := [va_rf (mR μ 288 o)]) (rest := []) (c_X8_copyFrom h) yf_X8_copyFrom tw_539 tw_540 tw_541 ⟨Nat.le_of_ble_eq_true rfl, Nat.le_of_ble_eq_true rfl⟩ ⟨(Nat.le_of_ble_eq_true rfl), (Nat.le_of_ble_eq_true rfl)⟩ rfl hl.1 rfl (Nat.le_of_ble_eq_true rfl) dX10_save_8 (fun v9 μ5 H locs hp hM hS => ?_)
  obtain ⟨rfl, h⟩ := hp
  refine W.cs (cells' := 0) (slots' := 0) rfl rfl ?_
  refine lv_aload_n S.1 S.2.1 dX10_save_11 rfl (lv_at hl 0 rfl) ?_
  refine lv_iconst (v := (nI 1)) S.1 S.2.1 dX10_save_12 (by decide) ?_
  obtain ⟨k6, h⟩ := h
  refine mz_puti S hG hM hS cf_9 fd_295 tw_350 dX10_save_13 k6 rfl rfl (fun H locs hM hS hz9 => ?_)
  refine lv_aload_n S.1 S.2.1 dX10_save_16 rfl (lv_at hl 0 rfl) ?_
  refine mz_getr S hG hM cf_9 fd_288 tw_343 dX10_save_17 k6 ?_
  obtain ⟨a7, e8, h⟩ := h
  refine mz_o0 e8 ?_
  obtain ⟨k9, h⟩ := h
  refine mz_geti S hG hM cf_7 fd_230 tw_203 dX10_save_20 k9 ?_
  exact mz_iret S hr hlk hM hS rfl (Nat.le_of_ble_eq_true rfl) (Nat.le_of_ble_eq_true rfl) dX10_save_23 ⟨_, rfl, h⟩
set_option maxRecDepth 100000 in
set_option maxHeartbeats 4000000 in
theorem c_X10_restore {l : Launch} {G : mgT} {μ : mmT} {o : Nat} {Q : Int32 → mmT → Prop} {X : String → mmT → Prop} (hl0 : l.stackTraces = false) (h : w_X10_restore G μ o Q X) : MX G l yX10_restore cX10_restore 1 (some .int) { frames := 6, cells := 1, slots := 6, locals := 103 } [.ref o] μ (pI Q) X := by
  refine mz_MX (by decide +kernel) (Nat.le_of_ble_eq_true rfl) (fun p e s m args below meth c S hG hr hlk hnm hex => ?_)
  intro H locs ls hM hS hl
  have hl : lv_has ls 1 [(0, .ref o)] := hl
  unfold w_X10_restore at h
  refine lv_aload_n S.1 S.2.1 dX10_restore_0 rfl (lv_at hl 0 rfl) ?_
  obtain ⟨k1, h⟩ := h
  refine mz_geti S hG hM cf_9 fd_295 tw_350 dX10_restore_1 k1 ?_
  refine lv_if_ne (tgt := 18) S.1 S.2.1 dX10_restore_4 (by decide) (fun c2 => ?_) (fun c2 => ?_)
  · have h := h.1 c2
    refine lv_aload_n S.1 S.2.1 dX10_restore_18 rfl (lv_at hl 0 rfl) ?_
    refine mz_getr S hG hM cf_9 fd_288 tw_343 dX10_restore_19 k1 ?_
    refine lv_aload_n S.1 S.2.1 dX10_restore_22 rfl (lv_at hl 0 rfl) ?_
    refine mz_getr S hG hM cf_9 fd_291 tw_346 dX10_restore_23 k1 ?_
    obtain ⟨a3, e4, h⟩ := h
    refine mz_o1 e4 ?_
    obtain ⟨k5, h⟩ := h
    refine mz_V S hG hM hS cf_7 k5 (As := [va_rf (mR μ 291 o)]) (rest := []) (c_X8_copyFrom h) yf_X8_copyFrom tw_539 tw_540 tw_541 ⟨Nat.le_of_ble_eq_true rfl, Nat.le_of_ble_eq_true rfl⟩ ⟨(Nat.le_of_ble_eq_true rfl), (Nat.le_of_ble_eq_true rfl)⟩ rfl hl.1 rfl (Nat.le_of_ble_eq_true rfl) dX10_restore_26 (fun v9 μ6 H locs hp hM hS => ?_)
    obtain ⟨rfl, h⟩ := hp
    refine W.cs (cells' := 0) (slots' := 0) rfl rfl ?_
    refine lv_aload_n S.1 S.2.1 dX10_restore_29 rfl (lv_at hl 0 rfl) ?_
    obtain ⟨k7, h⟩ := h
    refine mz_getr S hG hM cf_9 fd_292 tw_347 dX10_restore_30 k7 ?_
    refine lv_iconst (v := (nI 0)) S.1 S.2.1 dX10_restore_33 (by decide) ?_
    obtain ⟨a8, e9, h⟩ := h
    refine mz_o1 e9 ?_
    obtain ⟨k10, h⟩ := h
    refine mz_puti S hG hM hS cf_3 fd_98 tw_239 dX10_restore_34 k10 rfl rfl (fun H locs hM hS hz9 => ?_)
    refine lv_aload_n S.1 S.2.1 dX10_restore_37 rfl (lv_at hl 0 rfl) ?_
    refine mz_getr S hG hM cf_9 fd_288 tw_343 dX10_restore_38 k7 ?_
    obtain ⟨a11, e12, h⟩ := h
    refine mz_o0 e12 ?_
    obtain ⟨k13, h⟩ := h
    refine mz_geti S hG hM cf_7 fd_230 tw_203 dX10_restore_41 k13 ?_
    exact vx_ret (mz_iret S hr hlk hM hS rfl (Nat.le_of_ble_eq_true rfl) (Nat.le_of_ble_eq_true rfl) dX10_restore_44 ⟨_, rfl, h⟩)
  · have h := h.2 c2
    exact mz_throwW S hl0 hG hM hS hex hlk hl.1 xf_98_102 (j := 27) rfl dX10_restore_7 dX10_restore_10 dX10_restore_11 dX10_restore_14 dX10_restore_17 (Nat.le_of_ble_eq_true rfl) (Nat.le_of_ble_eq_true rfl) (Nat.le_of_ble_eq_true rfl) (Nat.le_of_ble_eq_true rfl) (Nat.le_of_ble_eq_true rfl) (Nat.le_of_ble_eq_true rfl) h
set_option maxRecDepth 100000 in
set_option maxHeartbeats 4000000 in
theorem c_L_cell {l : Launch} {G : mgT} {μ : mmT} {x1 : Int32} {Q : Int32 → Prop} (h : w_L_cell G μ x1 Q) : MC G l yL_cell cL_cell 2 (some .int) { frames := 0, cells := 0, slots := 0, locals := 0 } [.ref (gX G 5), .int x1] μ (pI (fun r μ' => μ' = μ ∧ Q r)) := by
  refine mz_MC (by decide +kernel) (Nat.le_of_ble_eq_true rfl) (fun p e s m args below meth c S hG hr hlk hnm => ?_)
  have hB16 : ∀ (s0 : Int32) (H : Heap) (locs : List Loc) (ls : Array Slot), Mm G μ H → va_S (Ah G) s.heap H locs → lv_has ls 2 [(0, .ref (gX G 5))] → w_L_cell_b16 G μ Q  s0 → W p l e { frames := 0, cells := 0, slots := 0, locals := 0 } s m args below meth c H locs (0) (0) (MQ below (mQ G (pI (fun r μ' => μ' = μ ∧ Q r))) args s 0 0 (Ah G)) (F0 m 16 ls [.int s0]) := by
    intro  s0 H locs ls hM hS hl h
    unfold w_L_cell_b16 at h
    exact mz_iret S hr hlk hM hS rfl (Nat.le_of_ble_eq_true rfl) (Nat.le_of_ble_eq_true rfl) dL_cell_16 ⟨_, rfl, rfl, h⟩
  intro H locs ls hM hS hl
  have hl : lv_has ls 2 [(0, .ref (gX G 5)), (1, .int x1)] := hl
  unfold w_L_cell at h
  refine lv_iload_n S.1 S.2.1 dL_cell_0 rfl (lv_at hl 1 rfl) ?_
  refine lv_aload_n S.1 S.2.1 dL_cell_1 rfl (lv_at hl 0 rfl) ?_
  refine mz_scrL S hG hS dL_cell_2 ?_
  refine lv_icmp_ge (tgt := 12) S.1 S.2.1 dL_cell_3 (by decide) (fun c1 => ?_) (fun c1 => ?_)
  · have h := h.1 c1
    refine lv_ldc (v := 40503) S.1 S.2.1 S.2.2.2.1 (S.2.2.2.2 _ tw_404) dL_cell_12 ?_
    refine lv_iload_n S.1 S.2.1 dL_cell_14 rfl (lv_at hl 1 rfl) ?_
    refine lv_imul S.1 S.2.1 dL_cell_15 ?_
    exact hB16  ((40503 : Int32) * x1) H locs ls hM hS (lv_sub hl [0] rfl) h
  · have h := h.2 c1
    refine lv_aload_n S.1 S.2.1 dL_cell_6 rfl (lv_at hl 0 rfl) ?_
    refine lv_iload_n S.1 S.2.1 dL_cell_7 rfl (lv_at hl 1 rfl) ?_
    obtain ⟨b2, h⟩ := h
    refine mz_scrA S hG hS b2 dL_cell_8 ?_
    refine lv_goto (tgt := 16) S.1 S.2.1 dL_cell_9 (by decide) ?_
    exact hB16  (gQ G x1.toNatClampNeg) H locs ls hM hS (lv_sub hl [0] rfl) h
set_option maxRecDepth 100000 in
set_option maxHeartbeats 4000000 in
theorem c_L_pick {l : Launch} {G : mgT} {μ : mmT} {x1 : Int32} {x2 : Int32} {Q : Int32 → Prop} (h : w_L_pick G μ x1 x2 Q) : MC G l yL_pick cL_pick 3 (some .int) { frames := 1, cells := 0, slots := 0, locals := 21 } [.ref (gX G 5), .int x1, .int x2] μ (pI (fun r μ' => μ' = μ ∧ Q r)) := by
  refine mz_MC (by decide +kernel) (Nat.le_of_ble_eq_true rfl) (fun p e s m args below meth c S hG hr hlk hnm => ?_)
  intro H locs ls hM hS hl
  have hl : lv_has ls 3 [(0, .ref (gX G 5)), (1, .int x1), (2, .int x2)] := hl
  unfold w_L_pick at h
  refine lv_aload_n S.1 S.2.1 dL_pick_0 rfl (lv_at hl 0 rfl) ?_
  refine lv_iload_n S.1 S.2.1 dL_pick_1 rfl (lv_at hl 1 rfl) ?_
  refine mz_S S hG hM hS (As := [.ref (gX G 5), .int x1]) (rest := []) (c_L_cell h) yf_L_cell tw_401 tw_402 ⟨Nat.le_of_ble_eq_true rfl, Nat.le_of_ble_eq_true rfl⟩ ⟨(Nat.le_of_ble_eq_true rfl), (Nat.le_of_ble_eq_true rfl)⟩ rfl hl.1 rfl (Nat.le_of_ble_eq_true rfl) dL_pick_2 (fun v9 μ9 H locs hp hM hS => ?_)
  obtain ⟨u1, rfl, e9, h⟩ := hp
  rw [e9] at hM
  refine W.cs (cells' := 0) (slots' := 0) rfl rfl ?_
  refine lv_iconst (v := (nI 1)) S.1 S.2.1 dL_pick_5 (by decide) ?_
  refine lv_iushr S.1 S.2.1 dL_pick_6 rfl ?_
  refine lv_iload_n S.1 S.2.1 dL_pick_7 rfl (lv_at hl 2 rfl) ?_
  obtain ⟨g2, h⟩ := h
  refine lv_irem S.1 S.2.1 dL_pick_8 g2 ?_
  exact mz_iret S hr hlk hM hS rfl (Nat.le_of_ble_eq_true rfl) (Nat.le_of_ble_eq_true rfl) dL_pick_9 ⟨_, rfl, rfl, h⟩
set_option maxRecDepth 100000 in
set_option maxHeartbeats 4000000 in
theorem c_L_addNest {l : Launch} {G : mgT} {μ : mmT} {r0 : Option Nat} {x1 : Int32} {x2 : Int32} {Q : Int32 → mmT → Prop} (hl0 : l.stackTraces = false) (h : w_L_addNest G μ r0 x1 x2 Q) : MH G l yL_addNest cL_addNest 4 (some .int) [(0, 6, 7, 20), (0, 6, 11, 22)] { frames := 8, cells := 1, slots := 6, locals := 167 } [va_rf r0, .int x1, .int x2] μ (pI Q) := by
  refine mz_MH (by decide +kernel) (by simp [lg_sl, mz_cat, mz_cr, mz_ci, mz_cl, mz_cf, mz_cd, mz_cn]) (fun p e s m args below meth c S hG hr hlk hnm htab => ?_)
  intro H locs ls hM hS hl
  have hl : lv_has ls 4 [(0, va_rf r0), (1, .int x1), (2, .int x2)] := by simpa [lv_args, mz_cat, mz_cr, mz_ci, mz_cl, mz_cf, mz_cd, mz_cn] using hl
  unfold w_L_addNest at h
  refine mz_aload_n (x := r0) S.1 S.2.1 dL_addNest_0 rfl (lv_at hl 0 rfl) ?_
  refine lv_iload_n S.1 S.2.1 dL_addNest_1 rfl (lv_at hl 1 rfl) ?_
  refine lv_iload_n S.1 S.2.1 dL_addNest_2 rfl (lv_at hl 2 rfl) ?_
  obtain ⟨a1, e2, h⟩ := h
  refine mz_o2 e2 ?_
  obtain ⟨k3, h⟩ := h
  refine mz_VX S hG hM hS cf_9 k3 (As := [.int x1, .int x2]) (rest := []) (c_X10_addNest hl0 h) yf_X10_addNest tw_635 tw_636 tw_637 ⟨Nat.le_of_ble_eq_true rfl, Nat.le_of_ble_eq_true rfl⟩ ⟨(Nat.le_of_ble_eq_true rfl), (Nat.le_of_ble_eq_true rfl)⟩ rfl hl.1 rfl (Nat.le_of_ble_eq_true rfl) dL_addNest_3 (fun E ce q9 μ9 H locs hp hM hS hc9 hv9 hcl9 => ?_) (fun v9 μ5 H locs hp hM hS => ?_)
  · have h := hp
    rcases h with ⟨rfl, h⟩ | h
    · refine vx_catch S.2.2.2.1 (name := "java/lang/IllegalArgumentException") [] ⟨0, 6, 7, 20⟩ [⟨0, 6, 11, 22⟩] (by rw [htab]; rfl) (fun z hz => absurd hz List.not_mem_nil) (by decide) (by decide) (S.2.2.2.2 _ tw_634) (hG.cast (i := 653) (by decide +kernel)) hc9 hv9 hcl9 ?_
      refine W.cs (cells' := 1) (slots' := 6) rfl rfl ?_
      refine lv_astore_n (lv' := [(3, .ref q9), (0, va_rf r0), (1, .int x1), (2, .int x2)]) S.1 S.2.1 dL_addNest_7 rfl hl (by decide) rfl (fun ls hl => ?_)
      refine lv_bipush (v := (-78)) S.1 S.2.1 dL_addNest_8 (by decide) ?_
      exact mz_iret S hr hlk hM hS rfl (Nat.le_of_ble_eq_true rfl) (Nat.le_of_ble_eq_true rfl) dL_addNest_10 ⟨_, rfl, h⟩
    obtain ⟨rfl, h⟩ := h
    refine vx_catch S.2.2.2.1 (name := "java/lang/IllegalStateException") [⟨0, 6, 7, 20⟩] ⟨0, 6, 11, 22⟩ [] (by rw [htab]; rfl) (fun z hz => (List.mem_cons.mp hz).elim (fun e9 => by subst e9; exact Or.inr ⟨by decide, "java/lang/IllegalArgumentException", S.2.2.2.2 _ tw_634, hG.nc (by decide)⟩) (fun hz => absurd hz List.not_mem_nil)) (by decide) (by decide) (S.2.2.2.2 _ tw_506) (hG.cast (i := 513) (by decide +kernel)) hc9 hv9 hcl9 ?_
    refine W.cs (cells' := 1) (slots' := 6) rfl rfl ?_
    refine lv_astore_n (lv' := [(3, .ref q9), (0, va_rf r0), (1, .int x1), (2, .int x2)]) S.1 S.2.1 dL_addNest_11 rfl hl (by decide) rfl (fun ls hl => ?_)
    refine lv_bipush (v := (-79)) S.1 S.2.1 dL_addNest_12 (by decide) ?_
    exact mz_iret S hr hlk hM hS rfl (Nat.le_of_ble_eq_true rfl) (Nat.le_of_ble_eq_true rfl) dL_addNest_14 ⟨_, rfl, h⟩
  · obtain ⟨u4, rfl, h⟩ := hp
    refine W.cs (cells' := 1) (slots' := 6) rfl rfl ?_
    exact mz_iret S hr hlk hM hS rfl (Nat.le_of_ble_eq_true rfl) (Nat.le_of_ble_eq_true rfl) dL_addNest_6 ⟨_, rfl, h⟩
set_option maxRecDepth 100000 in
set_option maxHeartbeats 4000000 in
theorem c_L_addCrow {l : Launch} {G : mgT} {μ : mmT} {r0 : Option Nat} {Q : Int32 → mmT → Prop} (hl0 : l.stackTraces = false) (h : w_L_addCrow G μ r0 Q) : MH G l yL_addCrow cL_addCrow 2 (some .int) [(0, 4, 5, 22)] { frames := 8, cells := 1, slots := 6, locals := 165 } [va_rf r0] μ (pI Q) := by
  refine mz_MH (by decide +kernel) (by simp [lg_sl, mz_cat, mz_cr, mz_ci, mz_cl, mz_cf, mz_cd, mz_cn]) (fun p e s m args below meth c S hG hr hlk hnm htab => ?_)
  intro H locs ls hM hS hl
  have hl : lv_has ls 2 [(0, va_rf r0)] := by simpa [lv_args, mz_cat, mz_cr, mz_ci, mz_cl, mz_cf, mz_cd, mz_cn] using hl
  unfold w_L_addCrow at h
  refine mz_aload_n (x := r0) S.1 S.2.1 dL_addCrow_0 rfl (lv_at hl 0 rfl) ?_
  obtain ⟨a1, e2, h⟩ := h
  refine mz_o0 e2 ?_
  obtain ⟨k3, h⟩ := h
  refine mz_VX S hG hM hS cf_9 k3 (As := []) (rest := []) (c_X10_addCrow hl0 h) yf_X10_addCrow tw_692 tw_693 tw_694 ⟨Nat.le_of_ble_eq_true rfl, Nat.le_of_ble_eq_true rfl⟩ ⟨(Nat.le_of_ble_eq_true rfl), (Nat.le_of_ble_eq_true rfl)⟩ rfl hl.1 rfl (Nat.le_of_ble_eq_true rfl) dL_addCrow_1 (fun E ce q9 μ9 H locs hp hM hS hc9 hv9 hcl9 => ?_) (fun v9 μ5 H locs hp hM hS => ?_)
  · have h := hp
    obtain ⟨rfl, h⟩ := h
    refine vx_catch S.2.2.2.1 (name := "java/lang/IllegalStateException") [] ⟨0, 4, 5, 22⟩ [] (by rw [htab]; rfl) (fun z hz => absurd hz List.not_mem_nil) (by decide) (by decide) (S.2.2.2.2 _ tw_506) (hG.cast (i := 513) (by decide +kernel)) hc9 hv9 hcl9 ?_
    refine W.cs (cells' := 1) (slots' := 6) rfl rfl ?_
    refine lv_astore_n (i := 1) (lv' := [(1, .ref q9), (0, va_rf r0)]) S.1 S.2.1 dL_addCrow_5 rfl hl (by decide) (by simp [List.filter, mz_cat]) (fun ls hl => ?_)
    refine lv_bipush (v := (-79)) S.1 S.2.1 dL_addCrow_6 (by decide) ?_
    exact mz_iret S hr hlk hM hS rfl (Nat.le_of_ble_eq_true rfl) (Nat.le_of_ble_eq_true rfl) dL_addCrow_8 ⟨_, rfl, h⟩
  · obtain ⟨u4, rfl, h⟩ := hp
    refine W.cs (cells' := 1) (slots' := 6) rfl rfl ?_
    exact mz_iret S hr hlk hM hS rfl (Nat.le_of_ble_eq_true rfl) (Nat.le_of_ble_eq_true rfl) dL_addCrow_4 ⟨_, rfl, h⟩
set_option maxRecDepth 100000 in
set_option maxHeartbeats 4000000 in
theorem c_L_publish {l : Launch} {G : mgT} {μ : mmT} {r0 : Option Nat} {x1 : Int32} {x2 : Int32} {Q : Int32 → mmT → Prop} (hl0 : l.stackTraces = false) (h : w_L_publish G μ r0 x1 x2 Q) : MH G l yL_publish cL_publish 4 (some .int) [(0, 6, 7, 31), (0, 6, 11, 20), (0, 6, 15, 22)] { frames := 8, cells := 1, slots := 6, locals := 167 } [va_rf r0, .int x1, .int x2] μ (pI Q) := by
  refine mz_MH (by decide +kernel) (by simp [lg_sl, mz_cat, mz_cr, mz_ci, mz_cl, mz_cf, mz_cd, mz_cn]) (fun p e s m args below meth c S hG hr hlk hnm htab => ?_)
  intro H locs ls hM hS hl
  have hl : lv_has ls 4 [(0, va_rf r0), (1, .int x1), (2, .int x2)] := by simpa [lv_args, mz_cat, mz_cr, mz_ci, mz_cl, mz_cf, mz_cd, mz_cn] using hl
  unfold w_L_publish at h
  refine mz_aload_n (x := r0) S.1 S.2.1 dL_publish_0 rfl (lv_at hl 0 rfl) ?_
  refine lv_iload_n S.1 S.2.1 dL_publish_1 rfl (lv_at hl 1 rfl) ?_
  refine lv_iload_n S.1 S.2.1 dL_publish_2 rfl (lv_at hl 2 rfl) ?_
  obtain ⟨a1, e2, h⟩ := h
  refine mz_o2 e2 ?_
  obtain ⟨k3, h⟩ := h
  refine mz_VX S hG hM hS cf_9 k3 (As := [.int x1, .int x2]) (rest := []) (c_X10_publish hl0 h) yf_X10_publish tw_735 tw_736 tw_737 ⟨Nat.le_of_ble_eq_true rfl, Nat.le_of_ble_eq_true rfl⟩ ⟨(Nat.le_of_ble_eq_true rfl), (Nat.le_of_ble_eq_true rfl)⟩ rfl hl.1 rfl (Nat.le_of_ble_eq_true rfl) dL_publish_3 (fun E ce q9 μ9 H locs hp hM hS hc9 hv9 hcl9 => ?_) (fun v9 μ5 H locs hp hM hS => ?_)
  · have h := hp
    rcases h with ⟨rfl, h⟩ | h
    · refine vx_catch S.2.2.2.1 (name := "java/lang/IndexOutOfBoundsException") [] ⟨0, 6, 7, 31⟩ [⟨0, 6, 11, 20⟩, ⟨0, 6, 15, 22⟩] (by rw [htab]; rfl) (fun z hz => absurd hz List.not_mem_nil) (by decide) (by decide) (S.2.2.2.2 _ tw_714) (hG.cast (i := 670) (by decide +kernel)) hc9 hv9 hcl9 ?_
      refine W.cs (cells' := 1) (slots' := 6) rfl rfl ?_
      refine lv_astore_n (lv' := [(3, .ref q9), (0, va_rf r0), (1, .int x1), (2, .int x2)]) S.1 S.2.1 dL_publish_7 rfl hl (by decide) rfl (fun ls hl => ?_)
      refine lv_bipush (v := (-77)) S.1 S.2.1 dL_publish_8 (by decide) ?_
      exact mz_iret S hr hlk hM hS rfl (Nat.le_of_ble_eq_true rfl) (Nat.le_of_ble_eq_true rfl) dL_publish_10 ⟨_, rfl, h⟩
    rcases h with ⟨rfl, h⟩ | h
    · refine vx_catch S.2.2.2.1 (name := "java/lang/IllegalArgumentException") [⟨0, 6, 7, 31⟩] ⟨0, 6, 11, 20⟩ [⟨0, 6, 15, 22⟩] (by rw [htab]; rfl) (fun z hz => (List.mem_cons.mp hz).elim (fun e9 => by subst e9; exact Or.inr ⟨by decide, "java/lang/IndexOutOfBoundsException", S.2.2.2.2 _ tw_714, hG.nc (by decide)⟩) (fun hz => absurd hz List.not_mem_nil)) (by decide) (by decide) (S.2.2.2.2 _ tw_634) (hG.cast (i := 653) (by decide +kernel)) hc9 hv9 hcl9 ?_
      refine W.cs (cells' := 1) (slots' := 6) rfl rfl ?_
      refine lv_astore_n (lv' := [(3, .ref q9), (0, va_rf r0), (1, .int x1), (2, .int x2)]) S.1 S.2.1 dL_publish_11 rfl hl (by decide) rfl (fun ls hl => ?_)
      refine lv_bipush (v := (-78)) S.1 S.2.1 dL_publish_12 (by decide) ?_
      exact mz_iret S hr hlk hM hS rfl (Nat.le_of_ble_eq_true rfl) (Nat.le_of_ble_eq_true rfl) dL_publish_14 ⟨_, rfl, h⟩
    obtain ⟨rfl, h⟩ := h
    refine vx_catch S.2.2.2.1 (name := "java/lang/IllegalStateException") [⟨0, 6, 7, 31⟩, ⟨0, 6, 11, 20⟩] ⟨0, 6, 15, 22⟩ [] (by rw [htab]; rfl) (fun z hz => (List.mem_cons.mp hz).elim (fun e9 => by subst e9; exact Or.inr ⟨by decide, "java/lang/IndexOutOfBoundsException", S.2.2.2.2 _ tw_714, hG.nc (by decide)⟩) (fun hz => (List.mem_cons.mp hz).elim (fun e9 => by subst e9; exact Or.inr ⟨by decide, "java/lang/IllegalArgumentException", S.2.2.2.2 _ tw_634, hG.nc (by decide)⟩) (fun hz => absurd hz List.not_mem_nil))) (by decide) (by decide) (S.2.2.2.2 _ tw_506) (hG.cast (i := 513) (by decide +kernel)) hc9 hv9 hcl9 ?_
    refine W.cs (cells' := 1) (slots' := 6) rfl rfl ?_
    refine lv_astore_n (lv' := [(3, .ref q9), (0, va_rf r0), (1, .int x1), (2, .int x2)]) S.1 S.2.1 dL_publish_15 rfl hl (by decide) rfl (fun ls hl => ?_)
    refine lv_bipush (v := (-79)) S.1 S.2.1 dL_publish_16 (by decide) ?_
    exact mz_iret S hr hlk hM hS rfl (Nat.le_of_ble_eq_true rfl) (Nat.le_of_ble_eq_true rfl) dL_publish_18 ⟨_, rfl, h⟩
  · obtain ⟨u4, rfl, h⟩ := hp
    refine W.cs (cells' := 1) (slots' := 6) rfl rfl ?_
    exact mz_iret S hr hlk hM hS rfl (Nat.le_of_ble_eq_true rfl) (Nat.le_of_ble_eq_true rfl) dL_publish_6 ⟨_, rfl, h⟩
set_option maxRecDepth 100000 in
set_option maxHeartbeats 4000000 in
theorem c_L_read {l : Launch} {G : mgT} {μ : mmT} {r0 : Option Nat} {x1 : Int32} {Q : Int32 → mmT → Prop} (hl0 : l.stackTraces = false) (h : w_L_read G μ r0 x1 Q) : MH G l yL_read cL_read 3 (some .int) [(0, 5, 6, 31), (0, 5, 10, 37)] { frames := 8, cells := 1, slots := 6, locals := 166 } [va_rf r0, .int x1] μ (pI Q) := by
  refine mz_MH (by decide +kernel) (by simp [lg_sl, mz_cat, mz_cr, mz_ci, mz_cl, mz_cf, mz_cd, mz_cn]) (fun p e s m args below meth c S hG hr hlk hnm htab => ?_)
  intro H locs ls hM hS hl
  have hl : lv_has ls 3 [(0, va_rf r0), (1, .int x1)] := by simpa [lv_args, mz_cat, mz_cr, mz_ci, mz_cl, mz_cf, mz_cd, mz_cn] using hl
  unfold w_L_read at h
  refine mz_aload_n (x := r0) S.1 S.2.1 dL_read_0 rfl (lv_at hl 0 rfl) ?_
  refine lv_iload_n S.1 S.2.1 dL_read_1 rfl (lv_at hl 1 rfl) ?_
  obtain ⟨a1, e2, h⟩ := h
  refine mz_o1 e2 ?_
  obtain ⟨k3, h⟩ := h
  refine mz_VX S hG hM hS cf_9 k3 (As := [.int x1]) (rest := []) (c_X10_read hl0 h) yf_X10_read tw_750 tw_751 tw_752 ⟨Nat.le_of_ble_eq_true rfl, Nat.le_of_ble_eq_true rfl⟩ ⟨(Nat.le_of_ble_eq_true rfl), (Nat.le_of_ble_eq_true rfl)⟩ rfl hl.1 rfl (Nat.le_of_ble_eq_true rfl) dL_read_2 (fun E ce q9 μ9 H locs hp hM hS hc9 hv9 hcl9 => ?_) (fun v9 μ5 H locs hp hM hS => ?_)
  · have h := hp
    rcases h with ⟨rfl, h⟩ | h
    · refine vx_catch S.2.2.2.1 (name := "java/lang/IndexOutOfBoundsException") [] ⟨0, 5, 6, 31⟩ [⟨0, 5, 10, 37⟩] (by rw [htab]; rfl) (fun z hz => absurd hz List.not_mem_nil) (by decide) (by decide) (S.2.2.2.2 _ tw_714) (hG.cast (i := 670) (by decide +kernel)) hc9 hv9 hcl9 ?_
      refine W.cs (cells' := 1) (slots' := 6) rfl rfl ?_
      refine lv_astore_n (lv' := [(2, .ref q9), (0, va_rf r0), (1, .int x1)]) S.1 S.2.1 dL_read_6 rfl hl (by decide) rfl (fun ls hl => ?_)
      refine lv_bipush (v := (-77)) S.1 S.2.1 dL_read_7 (by decide) ?_
      exact mz_iret S hr hlk hM hS rfl (Nat.le_of_ble_eq_true rfl) (Nat.le_of_ble_eq_true rfl) dL_read_9 ⟨_, rfl, h⟩
    obtain ⟨rfl, h⟩ := h
    refine vx_catch S.2.2.2.1 (name := "java/util/NoSuchElementException") [⟨0, 5, 6, 31⟩] ⟨0, 5, 10, 37⟩ [] (by rw [htab]; rfl) (fun z hz => (List.mem_cons.mp hz).elim (fun e9 => by subst e9; exact Or.inr ⟨by decide, "java/lang/IndexOutOfBoundsException", S.2.2.2.2 _ tw_714, hG.nc (by decide)⟩) (fun hz => absurd hz List.not_mem_nil)) (by decide) (by decide) (S.2.2.2.2 _ tw_408) (hG.cast (i := 415) (by decide +kernel)) hc9 hv9 hcl9 ?_
    refine W.cs (cells' := 1) (slots' := 6) rfl rfl ?_
    refine lv_astore_n (lv' := [(2, .ref q9), (0, va_rf r0), (1, .int x1)]) S.1 S.2.1 dL_read_10 rfl hl (by decide) rfl (fun ls hl => ?_)
    refine lv_bipush (v := (-75)) S.1 S.2.1 dL_read_11 (by decide) ?_
    exact mz_iret S hr hlk hM hS rfl (Nat.le_of_ble_eq_true rfl) (Nat.le_of_ble_eq_true rfl) dL_read_13 ⟨_, rfl, h⟩
  · obtain ⟨u4, rfl, h⟩ := hp
    refine W.cs (cells' := 1) (slots' := 6) rfl rfl ?_
    exact mz_iret S hr hlk hM hS rfl (Nat.le_of_ble_eq_true rfl) (Nat.le_of_ble_eq_true rfl) dL_read_5 ⟨_, rfl, h⟩
set_option maxRecDepth 100000 in
set_option maxHeartbeats 4000000 in
theorem c_L_cancel {l : Launch} {G : mgT} {μ : mmT} {r0 : Option Nat} {x1 : Int32} {Q : Int32 → mmT → Prop} (hl0 : l.stackTraces = false) (h : w_L_cancel G μ r0 x1 Q) : MH G l yL_cancel cL_cancel 3 (some .int) [(0, 5, 6, 37), (0, 5, 10, 22)] { frames := 8, cells := 1, slots := 6, locals := 166 } [va_rf r0, .int x1] μ (pI Q) := by
  refine mz_MH (by decide +kernel) (by simp [lg_sl, mz_cat, mz_cr, mz_ci, mz_cl, mz_cf, mz_cd, mz_cn]) (fun p e s m args below meth c S hG hr hlk hnm htab => ?_)
  intro H locs ls hM hS hl
  have hl : lv_has ls 3 [(0, va_rf r0), (1, .int x1)] := by simpa [lv_args, mz_cat, mz_cr, mz_ci, mz_cl, mz_cf, mz_cd, mz_cn] using hl
  unfold w_L_cancel at h
  refine mz_aload_n (x := r0) S.1 S.2.1 dL_cancel_0 rfl (lv_at hl 0 rfl) ?_
  refine lv_iload_n S.1 S.2.1 dL_cancel_1 rfl (lv_at hl 1 rfl) ?_
  obtain ⟨a1, e2, h⟩ := h
  refine mz_o1 e2 ?_
  obtain ⟨k3, h⟩ := h
  refine mz_VX S hG hM hS cf_9 k3 (As := [.int x1]) (rest := []) (c_X10_cancel hl0 h) yf_X10_cancel tw_776 tw_777 tw_778 ⟨Nat.le_of_ble_eq_true rfl, Nat.le_of_ble_eq_true rfl⟩ ⟨(Nat.le_of_ble_eq_true rfl), (Nat.le_of_ble_eq_true rfl)⟩ rfl hl.1 rfl (Nat.le_of_ble_eq_true rfl) dL_cancel_2 (fun E ce q9 μ9 H locs hp hM hS hc9 hv9 hcl9 => ?_) (fun v9 μ5 H locs hp hM hS => ?_)
  · have h := hp
    rcases h with ⟨rfl, h⟩ | h
    · refine vx_catch S.2.2.2.1 (name := "java/util/NoSuchElementException") [] ⟨0, 5, 6, 37⟩ [⟨0, 5, 10, 22⟩] (by rw [htab]; rfl) (fun z hz => absurd hz List.not_mem_nil) (by decide) (by decide) (S.2.2.2.2 _ tw_408) (hG.cast (i := 415) (by decide +kernel)) hc9 hv9 hcl9 ?_
      refine W.cs (cells' := 1) (slots' := 6) rfl rfl ?_
      refine lv_astore_n (lv' := [(2, .ref q9), (0, va_rf r0), (1, .int x1)]) S.1 S.2.1 dL_cancel_6 rfl hl (by decide) rfl (fun ls hl => ?_)
      refine lv_bipush (v := (-75)) S.1 S.2.1 dL_cancel_7 (by decide) ?_
      exact mz_iret S hr hlk hM hS rfl (Nat.le_of_ble_eq_true rfl) (Nat.le_of_ble_eq_true rfl) dL_cancel_9 ⟨_, rfl, h⟩
    obtain ⟨rfl, h⟩ := h
    refine vx_catch S.2.2.2.1 (name := "java/lang/IllegalStateException") [⟨0, 5, 6, 37⟩] ⟨0, 5, 10, 22⟩ [] (by rw [htab]; rfl) (fun z hz => (List.mem_cons.mp hz).elim (fun e9 => by subst e9; exact Or.inr ⟨by decide, "java/util/NoSuchElementException", S.2.2.2.2 _ tw_408, hG.nc (by decide)⟩) (fun hz => absurd hz List.not_mem_nil)) (by decide) (by decide) (S.2.2.2.2 _ tw_506) (hG.cast (i := 513) (by decide +kernel)) hc9 hv9 hcl9 ?_
    refine W.cs (cells' := 1) (slots' := 6) rfl rfl ?_
    refine lv_astore_n (lv' := [(2, .ref q9), (0, va_rf r0), (1, .int x1)]) S.1 S.2.1 dL_cancel_10 rfl hl (by decide) rfl (fun ls hl => ?_)
    refine lv_bipush (v := (-79)) S.1 S.2.1 dL_cancel_11 (by decide) ?_
    exact mz_iret S hr hlk hM hS rfl (Nat.le_of_ble_eq_true rfl) (Nat.le_of_ble_eq_true rfl) dL_cancel_13 ⟨_, rfl, h⟩
  · obtain ⟨u4, rfl, h⟩ := hp
    refine W.cs (cells' := 1) (slots' := 6) rfl rfl ?_
    exact mz_iret S hr hlk hM hS rfl (Nat.le_of_ble_eq_true rfl) (Nat.le_of_ble_eq_true rfl) dL_cancel_5 ⟨_, rfl, h⟩
set_option maxRecDepth 100000 in
set_option maxHeartbeats 4000000 in
theorem c_L_setWind {l : Launch} {G : mgT} {μ : mmT} {r0 : Option Nat} {x1 : Int32} {Q : Int32 → mmT → Prop} (hl0 : l.stackTraces = false) (h : w_L_setWind G μ r0 x1 Q) : MH G l yL_setWind cL_setWind 3 (some .int) [(0, 5, 6, 20)] { frames := 8, cells := 1, slots := 6, locals := 166 } [va_rf r0, .int x1] μ (pI Q) := by
  refine mz_MH (by decide +kernel) (by simp [lg_sl, mz_cat, mz_cr, mz_ci, mz_cl, mz_cf, mz_cd, mz_cn]) (fun p e s m args below meth c S hG hr hlk hnm htab => ?_)
  intro H locs ls hM hS hl
  have hl : lv_has ls 3 [(0, va_rf r0), (1, .int x1)] := by simpa [lv_args, mz_cat, mz_cr, mz_ci, mz_cl, mz_cf, mz_cd, mz_cn] using hl
  unfold w_L_setWind at h
  refine mz_aload_n (x := r0) S.1 S.2.1 dL_setWind_0 rfl (lv_at hl 0 rfl) ?_
  refine lv_iload_n S.1 S.2.1 dL_setWind_1 rfl (lv_at hl 1 rfl) ?_
  obtain ⟨a1, e2, h⟩ := h
  refine mz_o1 e2 ?_
  obtain ⟨k3, h⟩ := h
  refine mz_VX S hG hM hS cf_9 k3 (As := [.int x1]) (rest := []) (c_X10_setWind hl0 h) yf_X10_setWind tw_703 tw_704 tw_705 ⟨Nat.le_of_ble_eq_true rfl, Nat.le_of_ble_eq_true rfl⟩ ⟨(Nat.le_of_ble_eq_true rfl), (Nat.le_of_ble_eq_true rfl)⟩ rfl hl.1 rfl (Nat.le_of_ble_eq_true rfl) dL_setWind_2 (fun E ce q9 μ9 H locs hp hM hS hc9 hv9 hcl9 => ?_) (fun v9 μ5 H locs hp hM hS => ?_)
  · have h := hp
    obtain ⟨rfl, h⟩ := h
    refine vx_catch S.2.2.2.1 (name := "java/lang/IllegalArgumentException") [] ⟨0, 5, 6, 20⟩ [] (by rw [htab]; rfl) (fun z hz => absurd hz List.not_mem_nil) (by decide) (by decide) (S.2.2.2.2 _ tw_634) (hG.cast (i := 653) (by decide +kernel)) hc9 hv9 hcl9 ?_
    refine W.cs (cells' := 1) (slots' := 6) rfl rfl ?_
    refine lv_astore_n (lv' := [(2, .ref q9), (0, va_rf r0), (1, .int x1)]) S.1 S.2.1 dL_setWind_6 rfl hl (by decide) rfl (fun ls hl => ?_)
    refine lv_bipush (v := (-78)) S.1 S.2.1 dL_setWind_7 (by decide) ?_
    exact mz_iret S hr hlk hM hS rfl (Nat.le_of_ble_eq_true rfl) (Nat.le_of_ble_eq_true rfl) dL_setWind_9 ⟨_, rfl, h⟩
  · obtain ⟨u4, rfl, h⟩ := hp
    refine W.cs (cells' := 1) (slots' := 6) rfl rfl ?_
    exact mz_iret S hr hlk hM hS rfl (Nat.le_of_ble_eq_true rfl) (Nat.le_of_ble_eq_true rfl) dL_setWind_5 ⟨_, rfl, h⟩
set_option maxRecDepth 100000 in
set_option maxHeartbeats 4000000 in
theorem c_L_forget {l : Launch} {G : mgT} {μ : mmT} {r0 : Option Nat} {x1 : Int32} {Q : Int32 → mmT → Prop} (hl0 : l.stackTraces = false) (h : w_L_forget G μ r0 x1 Q) : MH G l yL_forget cL_forget 3 (some .int) [(0, 5, 6, 31)] { frames := 8, cells := 1, slots := 6, locals := 166 } [va_rf r0, .int x1] μ (pI Q) := by
  refine mz_MH (by decide +kernel) (by simp [lg_sl, mz_cat, mz_cr, mz_ci, mz_cl, mz_cf, mz_cd, mz_cn]) (fun p e s m args below meth c S hG hr hlk hnm htab => ?_)
  intro H locs ls hM hS hl
  have hl : lv_has ls 3 [(0, va_rf r0), (1, .int x1)] := by simpa [lv_args, mz_cat, mz_cr, mz_ci, mz_cl, mz_cf, mz_cd, mz_cn] using hl
  unfold w_L_forget at h
  refine mz_aload_n (x := r0) S.1 S.2.1 dL_forget_0 rfl (lv_at hl 0 rfl) ?_
  refine lv_iload_n S.1 S.2.1 dL_forget_1 rfl (lv_at hl 1 rfl) ?_
  obtain ⟨a1, e2, h⟩ := h
  refine mz_o1 e2 ?_
  obtain ⟨k3, h⟩ := h
  refine mz_VX S hG hM hS cf_9 k3 (As := [.int x1]) (rest := []) (c_X10_forget hl0 h) yf_X10_forget tw_765 tw_766 tw_767 ⟨Nat.le_of_ble_eq_true rfl, Nat.le_of_ble_eq_true rfl⟩ ⟨(Nat.le_of_ble_eq_true rfl), (Nat.le_of_ble_eq_true rfl)⟩ rfl hl.1 rfl (Nat.le_of_ble_eq_true rfl) dL_forget_2 (fun E ce q9 μ9 H locs hp hM hS hc9 hv9 hcl9 => ?_) (fun v9 μ5 H locs hp hM hS => ?_)
  · have h := hp
    obtain ⟨rfl, h⟩ := h
    refine vx_catch S.2.2.2.1 (name := "java/lang/IndexOutOfBoundsException") [] ⟨0, 5, 6, 31⟩ [] (by rw [htab]; rfl) (fun z hz => absurd hz List.not_mem_nil) (by decide) (by decide) (S.2.2.2.2 _ tw_714) (hG.cast (i := 670) (by decide +kernel)) hc9 hv9 hcl9 ?_
    refine W.cs (cells' := 1) (slots' := 6) rfl rfl ?_
    refine lv_astore_n (lv' := [(2, .ref q9), (0, va_rf r0), (1, .int x1)]) S.1 S.2.1 dL_forget_6 rfl hl (by decide) rfl (fun ls hl => ?_)
    refine lv_bipush (v := (-77)) S.1 S.2.1 dL_forget_7 (by decide) ?_
    exact mz_iret S hr hlk hM hS rfl (Nat.le_of_ble_eq_true rfl) (Nat.le_of_ble_eq_true rfl) dL_forget_9 ⟨_, rfl, h⟩
  · obtain ⟨u4, rfl, h⟩ := hp
    refine W.cs (cells' := 1) (slots' := 6) rfl rfl ?_
    exact mz_iret S hr hlk hM hS rfl (Nat.le_of_ble_eq_true rfl) (Nat.le_of_ble_eq_true rfl) dL_forget_5 ⟨_, rfl, h⟩
set_option maxRecDepth 100000 in
set_option maxHeartbeats 4000000 in
theorem c_L_advance {l : Launch} {G : mgT} {μ : mmT} {r0 : Option Nat} {x1 : Int32} {Q : Int32 → mmT → Prop} (hl0 : l.stackTraces = false) (h : w_L_advance G μ r0 x1 Q) : MH G l yL_advance cL_advance 3 (some .int) [(0, 5, 6, 20)] { frames := 8, cells := 1, slots := 6, locals := 193 } [va_rf r0, .int x1] μ (pI Q) := by
  refine mz_MH (by decide +kernel) (by simp [lg_sl, mz_cat, mz_cr, mz_ci, mz_cl, mz_cf, mz_cd, mz_cn]) (fun p e s m args below meth c S hG hr hlk hnm htab => ?_)
  intro H locs ls hM hS hl
  have hl : lv_has ls 3 [(0, va_rf r0), (1, .int x1)] := by simpa [lv_args, mz_cat, mz_cr, mz_ci, mz_cl, mz_cf, mz_cd, mz_cn] using hl
  unfold w_L_advance at h
  refine mz_aload_n (x := r0) S.1 S.2.1 dL_advance_0 rfl (lv_at hl 0 rfl) ?_
  refine lv_iload_n S.1 S.2.1 dL_advance_1 rfl (lv_at hl 1 rfl) ?_
  obtain ⟨a1, e2, h⟩ := h
  refine mz_o1 e2 ?_
  obtain ⟨k3, h⟩ := h
  refine mz_VX S hG hM hS cf_9 k3 (As := [.int x1]) (rest := []) (c_X10_advance hl0 h) yf_X10_advance tw_787 tw_788 tw_789 ⟨Nat.le_of_ble_eq_true rfl, Nat.le_of_ble_eq_true rfl⟩ ⟨(Nat.le_of_ble_eq_true rfl), (Nat.le_of_ble_eq_true rfl)⟩ rfl hl.1 rfl (Nat.le_of_ble_eq_true rfl) dL_advance_2 (fun E ce q9 μ9 H locs hp hM hS hc9 hv9 hcl9 => ?_) (fun v9 μ5 H locs hp hM hS => ?_)
  · have h := hp
    obtain ⟨rfl, h⟩ := h
    refine vx_catch S.2.2.2.1 (name := "java/lang/IllegalArgumentException") [] ⟨0, 5, 6, 20⟩ [] (by rw [htab]; rfl) (fun z hz => absurd hz List.not_mem_nil) (by decide) (by decide) (S.2.2.2.2 _ tw_634) (hG.cast (i := 653) (by decide +kernel)) hc9 hv9 hcl9 ?_
    refine W.cs (cells' := 1) (slots' := 6) rfl rfl ?_
    refine lv_astore_n (lv' := [(2, .ref q9), (0, va_rf r0), (1, .int x1)]) S.1 S.2.1 dL_advance_6 rfl hl (by decide) rfl (fun ls hl => ?_)
    refine lv_bipush (v := (-78)) S.1 S.2.1 dL_advance_7 (by decide) ?_
    exact mz_iret S hr hlk hM hS rfl (Nat.le_of_ble_eq_true rfl) (Nat.le_of_ble_eq_true rfl) dL_advance_9 ⟨_, rfl, h⟩
  · obtain ⟨u4, rfl, h⟩ := hp
    refine W.cs (cells' := 1) (slots' := 6) rfl rfl ?_
    exact mz_iret S hr hlk hM hS rfl (Nat.le_of_ble_eq_true rfl) (Nat.le_of_ble_eq_true rfl) dL_advance_5 ⟨_, rfl, h⟩
set_option maxRecDepth 100000 in
set_option maxHeartbeats 4000000 in
theorem c_L_distance {l : Launch} {G : mgT} {μ : mmT} {r0 : Option Nat} {x1 : Int32} {Q : Int32 → Prop} (hl0 : l.stackTraces = false) (h : w_L_distance G μ r0 x1 Q) : MH G l yL_distance cL_distance 3 (some .int) [(0, 5, 6, 31)] { frames := 8, cells := 1, slots := 6, locals := 143 } [va_rf r0, .int x1] μ (pI (fun r μ' => μ' = μ ∧ Q r)) := by
  refine mz_MH (by decide +kernel) (by simp [lg_sl, mz_cat, mz_cr, mz_ci, mz_cl, mz_cf, mz_cd, mz_cn]) (fun p e s m args below meth c S hG hr hlk hnm htab => ?_)
  intro H locs ls hM hS hl
  have hl : lv_has ls 3 [(0, va_rf r0), (1, .int x1)] := by simpa [lv_args, mz_cat, mz_cr, mz_ci, mz_cl, mz_cf, mz_cd, mz_cn] using hl
  unfold w_L_distance at h
  refine mz_aload_n (x := r0) S.1 S.2.1 dL_distance_0 rfl (lv_at hl 0 rfl) ?_
  refine lv_iload_n S.1 S.2.1 dL_distance_1 rfl (lv_at hl 1 rfl) ?_
  obtain ⟨a1, e2, h⟩ := h
  refine mz_o1 e2 ?_
  obtain ⟨k3, h⟩ := h
  refine mz_VX S hG hM hS cf_9 k3 (As := [.int x1]) (rest := []) (c_X10_distance hl0 h) yf_X10_distance tw_1126 tw_1127 tw_1128 ⟨Nat.le_of_ble_eq_true rfl, Nat.le_of_ble_eq_true rfl⟩ ⟨(Nat.le_of_ble_eq_true rfl), (Nat.le_of_ble_eq_true rfl)⟩ rfl hl.1 rfl (Nat.le_of_ble_eq_true rfl) dL_distance_2 (fun E ce q9 μ9 H locs hp hM hS hc9 hv9 hcl9 => ?_) (fun v9 μ9 H locs hp hM hS => ?_)
  · obtain ⟨e9, h⟩ := hp
    rw [e9] at hM
    obtain ⟨rfl, h⟩ := h
    refine vx_catch S.2.2.2.1 (name := "java/lang/IndexOutOfBoundsException") [] ⟨0, 5, 6, 31⟩ [] (by rw [htab]; rfl) (fun z hz => absurd hz List.not_mem_nil) (by decide) (by decide) (S.2.2.2.2 _ tw_714) (hG.cast (i := 670) (by decide +kernel)) hc9 hv9 hcl9 ?_
    refine W.cs (cells' := 1) (slots' := 6) rfl rfl ?_
    refine lv_astore_n (lv' := [(2, .ref q9), (0, va_rf r0), (1, .int x1)]) S.1 S.2.1 dL_distance_6 rfl hl (by decide) rfl (fun ls hl => ?_)
    refine lv_bipush (v := (-77)) S.1 S.2.1 dL_distance_7 (by decide) ?_
    exact mz_iret S hr hlk hM hS rfl (Nat.le_of_ble_eq_true rfl) (Nat.le_of_ble_eq_true rfl) dL_distance_9 ⟨_, rfl, rfl, h⟩
  · obtain ⟨u4, rfl, e9, h⟩ := hp
    rw [e9] at hM
    refine W.cs (cells' := 1) (slots' := 6) rfl rfl ?_
    exact mz_iret S hr hlk hM hS rfl (Nat.le_of_ble_eq_true rfl) (Nat.le_of_ble_eq_true rfl) dL_distance_5 ⟨_, rfl, rfl, h⟩
set_option maxRecDepth 100000 in
set_option maxHeartbeats 4000000 in
theorem c_L_loss {l : Launch} {G : mgT} {μ : mmT} {r0 : Option Nat} {x1 : Int32} {Q : Int32 → Prop} (hl0 : l.stackTraces = false) (h : w_L_loss G μ r0 x1 Q) : MH G l yL_loss cL_loss 3 (some .int) [(0, 5, 6, 31)] { frames := 8, cells := 1, slots := 6, locals := 143 } [va_rf r0, .int x1] μ (pI (fun r μ' => μ' = μ ∧ Q r)) := by
  refine mz_MH (by decide +kernel) (by simp [lg_sl, mz_cat, mz_cr, mz_ci, mz_cl, mz_cf, mz_cd, mz_cn]) (fun p e s m args below meth c S hG hr hlk hnm htab => ?_)
  intro H locs ls hM hS hl
  have hl : lv_has ls 3 [(0, va_rf r0), (1, .int x1)] := by simpa [lv_args, mz_cat, mz_cr, mz_ci, mz_cl, mz_cf, mz_cd, mz_cn] using hl
  unfold w_L_loss at h
  refine mz_aload_n (x := r0) S.1 S.2.1 dL_loss_0 rfl (lv_at hl 0 rfl) ?_
  refine lv_iload_n S.1 S.2.1 dL_loss_1 rfl (lv_at hl 1 rfl) ?_
  obtain ⟨a1, e2, h⟩ := h
  refine mz_o1 e2 ?_
  obtain ⟨k3, h⟩ := h
  refine mz_VX S hG hM hS cf_9 k3 (As := [.int x1]) (rest := []) (c_X10_loss hl0 h) yf_X10_loss tw_1138 tw_1139 tw_1140 ⟨Nat.le_of_ble_eq_true rfl, Nat.le_of_ble_eq_true rfl⟩ ⟨(Nat.le_of_ble_eq_true rfl), (Nat.le_of_ble_eq_true rfl)⟩ rfl hl.1 rfl (Nat.le_of_ble_eq_true rfl) dL_loss_2 (fun E ce q9 μ9 H locs hp hM hS hc9 hv9 hcl9 => ?_) (fun v9 μ9 H locs hp hM hS => ?_)
  · obtain ⟨e9, h⟩ := hp
    rw [e9] at hM
    obtain ⟨rfl, h⟩ := h
    refine vx_catch S.2.2.2.1 (name := "java/lang/IndexOutOfBoundsException") [] ⟨0, 5, 6, 31⟩ [] (by rw [htab]; rfl) (fun z hz => absurd hz List.not_mem_nil) (by decide) (by decide) (S.2.2.2.2 _ tw_714) (hG.cast (i := 670) (by decide +kernel)) hc9 hv9 hcl9 ?_
    refine W.cs (cells' := 1) (slots' := 6) rfl rfl ?_
    refine lv_astore_n (lv' := [(2, .ref q9), (0, va_rf r0), (1, .int x1)]) S.1 S.2.1 dL_loss_6 rfl hl (by decide) rfl (fun ls hl => ?_)
    refine lv_bipush (v := (-77)) S.1 S.2.1 dL_loss_7 (by decide) ?_
    exact mz_iret S hr hlk hM hS rfl (Nat.le_of_ble_eq_true rfl) (Nat.le_of_ble_eq_true rfl) dL_loss_9 ⟨_, rfl, rfl, h⟩
  · obtain ⟨u4, rfl, e9, h⟩ := hp
    rw [e9] at hM
    refine W.cs (cells' := 1) (slots' := 6) rfl rfl ?_
    exact mz_iret S hr hlk hM hS rfl (Nat.le_of_ble_eq_true rfl) (Nat.le_of_ble_eq_true rfl) dL_loss_5 ⟨_, rfl, rfl, h⟩
set_option maxRecDepth 100000 in
set_option maxHeartbeats 4000000 in
theorem c_L_inboxSize {l : Launch} {G : mgT} {μ : mmT} {r0 : Option Nat} {x1 : Int32} {Q : Int32 → Prop} (hl0 : l.stackTraces = false) (h : w_L_inboxSize G μ r0 x1 Q) : MH G l yL_inboxSize cL_inboxSize 3 (some .int) [(0, 5, 6, 31)] { frames := 8, cells := 1, slots := 6, locals := 143 } [va_rf r0, .int x1] μ (pI (fun r μ' => μ' = μ ∧ Q r)) := by
  refine mz_MH (by decide +kernel) (by simp [lg_sl, mz_cat, mz_cr, mz_ci, mz_cl, mz_cf, mz_cd, mz_cn]) (fun p e s m args below meth c S hG hr hlk hnm htab => ?_)
  intro H locs ls hM hS hl
  have hl : lv_has ls 3 [(0, va_rf r0), (1, .int x1)] := by simpa [lv_args, mz_cat, mz_cr, mz_ci, mz_cl, mz_cf, mz_cd, mz_cn] using hl
  unfold w_L_inboxSize at h
  refine mz_aload_n (x := r0) S.1 S.2.1 dL_inboxSize_0 rfl (lv_at hl 0 rfl) ?_
  refine lv_iload_n S.1 S.2.1 dL_inboxSize_1 rfl (lv_at hl 1 rfl) ?_
  obtain ⟨a1, e2, h⟩ := h
  refine mz_o1 e2 ?_
  obtain ⟨k3, h⟩ := h
  refine mz_VX S hG hM hS cf_9 k3 (As := [.int x1]) (rest := []) (c_X10_inboxSize hl0 h) yf_X10_inboxSize tw_1152 tw_1153 tw_1154 ⟨Nat.le_of_ble_eq_true rfl, Nat.le_of_ble_eq_true rfl⟩ ⟨(Nat.le_of_ble_eq_true rfl), (Nat.le_of_ble_eq_true rfl)⟩ rfl hl.1 rfl (Nat.le_of_ble_eq_true rfl) dL_inboxSize_2 (fun E ce q9 μ9 H locs hp hM hS hc9 hv9 hcl9 => ?_) (fun v9 μ9 H locs hp hM hS => ?_)
  · obtain ⟨e9, h⟩ := hp
    rw [e9] at hM
    obtain ⟨rfl, h⟩ := h
    refine vx_catch S.2.2.2.1 (name := "java/lang/IndexOutOfBoundsException") [] ⟨0, 5, 6, 31⟩ [] (by rw [htab]; rfl) (fun z hz => absurd hz List.not_mem_nil) (by decide) (by decide) (S.2.2.2.2 _ tw_714) (hG.cast (i := 670) (by decide +kernel)) hc9 hv9 hcl9 ?_
    refine W.cs (cells' := 1) (slots' := 6) rfl rfl ?_
    refine lv_astore_n (lv' := [(2, .ref q9), (0, va_rf r0), (1, .int x1)]) S.1 S.2.1 dL_inboxSize_6 rfl hl (by decide) rfl (fun ls hl => ?_)
    refine lv_bipush (v := (-77)) S.1 S.2.1 dL_inboxSize_7 (by decide) ?_
    exact mz_iret S hr hlk hM hS rfl (Nat.le_of_ble_eq_true rfl) (Nat.le_of_ble_eq_true rfl) dL_inboxSize_9 ⟨_, rfl, rfl, h⟩
  · obtain ⟨u4, rfl, e9, h⟩ := hp
    rw [e9] at hM
    refine W.cs (cells' := 1) (slots' := 6) rfl rfl ?_
    exact mz_iret S hr hlk hM hS rfl (Nat.le_of_ble_eq_true rfl) (Nat.le_of_ble_eq_true rfl) dL_inboxSize_5 ⟨_, rfl, rfl, h⟩
set_option maxRecDepth 100000 in
set_option maxHeartbeats 4000000 in
theorem c_L_inboxMessage {l : Launch} {G : mgT} {μ : mmT} {r0 : Option Nat} {x1 : Int32} {x2 : Int32} {Q : Int32 → Prop} (hl0 : l.stackTraces = false) (h : w_L_inboxMessage G μ r0 x1 x2 Q) : MH G l yL_inboxMessage cL_inboxMessage 4 (some .int) [(0, 6, 7, 31), (0, 6, 11, 37)] { frames := 8, cells := 2, slots := 12, locals := 145 } [va_rf r0, .int x1, .int x2] μ (pI (fun r μ' => μ' = μ ∧ Q r)) := by
  refine mz_MH (by decide +kernel) (by simp [lg_sl, mz_cat, mz_cr, mz_ci, mz_cl, mz_cf, mz_cd, mz_cn]) (fun p e s m args below meth c S hG hr hlk hnm htab => ?_)
  intro H locs ls hM hS hl
  have hl : lv_has ls 4 [(0, va_rf r0), (1, .int x1), (2, .int x2)] := by simpa [lv_args, mz_cat, mz_cr, mz_ci, mz_cl, mz_cf, mz_cd, mz_cn] using hl
  unfold w_L_inboxMessage at h
  refine mz_aload_n (x := r0) S.1 S.2.1 dL_inboxMessage_0 rfl (lv_at hl 0 rfl) ?_
  refine lv_iload_n S.1 S.2.1 dL_inboxMessage_1 rfl (lv_at hl 1 rfl) ?_
  refine lv_iload_n S.1 S.2.1 dL_inboxMessage_2 rfl (lv_at hl 2 rfl) ?_
  obtain ⟨a1, e2, h⟩ := h
  refine mz_o2 e2 ?_
  obtain ⟨k3, h⟩ := h
  refine mz_VX S hG hM hS cf_9 k3 (As := [.int x1, .int x2]) (rest := []) (c_X10_inboxMessage hl0 h) yf_X10_inboxMessage tw_1159 tw_1160 tw_1161 ⟨Nat.le_of_ble_eq_true rfl, Nat.le_of_ble_eq_true rfl⟩ ⟨(Nat.le_of_ble_eq_true rfl), (Nat.le_of_ble_eq_true rfl)⟩ rfl hl.1 rfl (Nat.le_of_ble_eq_true rfl) dL_inboxMessage_3 (fun E ce q9 μ9 H locs hp hM hS hc9 hv9 hcl9 => ?_) (fun v9 μ9 H locs hp hM hS => ?_)
  · obtain ⟨e9, h⟩ := hp
    rw [e9] at hM
    rcases h with ⟨rfl, h⟩ | h
    · refine vx_catch S.2.2.2.1 (name := "java/lang/IndexOutOfBoundsException") [] ⟨0, 6, 7, 31⟩ [⟨0, 6, 11, 37⟩] (by rw [htab]; rfl) (fun z hz => absurd hz List.not_mem_nil) (by decide) (by decide) (S.2.2.2.2 _ tw_714) (hG.cast (i := 670) (by decide +kernel)) hc9 hv9 hcl9 ?_
      refine W.cs (cells' := 2) (slots' := 12) rfl rfl ?_
      refine lv_astore_n (lv' := [(3, .ref q9), (0, va_rf r0), (1, .int x1), (2, .int x2)]) S.1 S.2.1 dL_inboxMessage_7 rfl hl (by decide) rfl (fun ls hl => ?_)
      refine lv_bipush (v := (-77)) S.1 S.2.1 dL_inboxMessage_8 (by decide) ?_
      exact mz_iret S hr hlk hM hS rfl (Nat.le_of_ble_eq_true rfl) (Nat.le_of_ble_eq_true rfl) dL_inboxMessage_10 ⟨_, rfl, rfl, h⟩
    obtain ⟨rfl, h⟩ := h
    refine vx_catch S.2.2.2.1 (name := "java/util/NoSuchElementException") [⟨0, 6, 7, 31⟩] ⟨0, 6, 11, 37⟩ [] (by rw [htab]; rfl) (fun z hz => (List.mem_cons.mp hz).elim (fun e9 => by subst e9; exact Or.inr ⟨by decide, "java/lang/IndexOutOfBoundsException", S.2.2.2.2 _ tw_714, hG.nc (by decide)⟩) (fun hz => absurd hz List.not_mem_nil)) (by decide) (by decide) (S.2.2.2.2 _ tw_408) (hG.cast (i := 415) (by decide +kernel)) hc9 hv9 hcl9 ?_
    refine W.cs (cells' := 2) (slots' := 12) rfl rfl ?_
    refine lv_astore_n (lv' := [(3, .ref q9), (0, va_rf r0), (1, .int x1), (2, .int x2)]) S.1 S.2.1 dL_inboxMessage_11 rfl hl (by decide) rfl (fun ls hl => ?_)
    refine lv_bipush (v := (-75)) S.1 S.2.1 dL_inboxMessage_12 (by decide) ?_
    exact mz_iret S hr hlk hM hS rfl (Nat.le_of_ble_eq_true rfl) (Nat.le_of_ble_eq_true rfl) dL_inboxMessage_14 ⟨_, rfl, rfl, h⟩
  · obtain ⟨u4, rfl, e9, h⟩ := hp
    rw [e9] at hM
    refine W.cs (cells' := 2) (slots' := 12) rfl rfl ?_
    exact mz_iret S hr hlk hM hS rfl (Nat.le_of_ble_eq_true rfl) (Nat.le_of_ble_eq_true rfl) dL_inboxMessage_6 ⟨_, rfl, rfl, h⟩
set_option maxRecDepth 100000 in
set_option maxHeartbeats 4000000 in
theorem c_L_remembers {l : Launch} {G : mgT} {μ : mmT} {r0 : Option Nat} {x1 : Int32} {x2 : Int32} {Q : Int32 → Prop} (hl0 : l.stackTraces = false) (h : w_L_remembers G μ r0 x1 x2 Q) : MH G l yL_remembers cL_remembers 4 (some .int) [(0, 14, 15, 31)] { frames := 8, cells := 1, slots := 6, locals := 144 } [va_rf r0, .int x1, .int x2] μ (pI (fun r μ' => μ' = μ ∧ Q r)) := by
  refine mz_MH (by decide +kernel) (by simp [lg_sl, mz_cat, mz_cr, mz_ci, mz_cl, mz_cf, mz_cd, mz_cn]) (fun p e s m args below meth c S hG hr hlk hnm htab => ?_)
  have hB14 : ∀ (s0 : Int32) (H : Heap) (locs : List Loc) (ls : Array Slot), Mm G μ H → va_S (Ah G) s.heap H locs → lv_has ls 4 [] → w_L_remembers_b14 G μ Q  s0 → W p l e { frames := 8, cells := 1, slots := 6, locals := 144 } s m args below meth c H locs (1) (6) (MQ below (mQ G (pI (fun r μ' => μ' = μ ∧ Q r))) args s 1 6 (Ah G)) (F0 m 14 ls [.int s0]) := by
    intro  s0 H locs ls hM hS hl h
    unfold w_L_remembers_b14 at h
    exact mz_iret S hr hlk hM hS rfl (Nat.le_of_ble_eq_true rfl) (Nat.le_of_ble_eq_true rfl) dL_remembers_14 ⟨_, rfl, rfl, h⟩
  intro H locs ls hM hS hl
  have hl : lv_has ls 4 [(0, va_rf r0), (1, .int x1), (2, .int x2)] := by simpa [lv_args, mz_cat, mz_cr, mz_ci, mz_cl, mz_cf, mz_cd, mz_cn] using hl
  unfold w_L_remembers at h
  refine mz_aload_n (x := r0) S.1 S.2.1 dL_remembers_0 rfl (lv_at hl 0 rfl) ?_
  refine lv_iload_n S.1 S.2.1 dL_remembers_1 rfl (lv_at hl 1 rfl) ?_
  refine lv_iload_n S.1 S.2.1 dL_remembers_2 rfl (lv_at hl 2 rfl) ?_
  obtain ⟨a1, e2, h⟩ := h
  refine mz_o2 e2 ?_
  obtain ⟨k3, h⟩ := h
  refine mz_VX S hG hM hS cf_9 k3 (As := [.int x1, .int x2]) (rest := []) (c_X10_remembers hl0 h) yf_X10_remembers tw_1257 tw_1258 tw_1259 ⟨Nat.le_of_ble_eq_true rfl, Nat.le_of_ble_eq_true rfl⟩ ⟨(Nat.le_of_ble_eq_true rfl), (Nat.le_of_ble_eq_true rfl)⟩ rfl hl.1 rfl (Nat.le_of_ble_eq_true rfl) dL_remembers_3 (fun E ce q9 μ9 H locs hp hM hS hc9 hv9 hcl9 => ?_) (fun v9 μ9 H locs hp hM hS => ?_)
  · obtain ⟨e9, h⟩ := hp
    rw [e9] at hM
    obtain ⟨rfl, h⟩ := h
    refine vx_catch S.2.2.2.1 (name := "java/lang/IndexOutOfBoundsException") [] ⟨0, 14, 15, 31⟩ [] (by rw [htab]; rfl) (fun z hz => absurd hz List.not_mem_nil) (by decide) (by decide) (S.2.2.2.2 _ tw_714) (hG.cast (i := 670) (by decide +kernel)) hc9 hv9 hcl9 ?_
    refine W.cs (cells' := 1) (slots' := 6) rfl rfl ?_
    refine lv_astore_n (lv' := [(3, .ref q9), (0, va_rf r0), (1, .int x1), (2, .int x2)]) S.1 S.2.1 dL_remembers_15 rfl hl (by decide) rfl (fun ls hl => ?_)
    refine lv_bipush (v := (-77)) S.1 S.2.1 dL_remembers_16 (by decide) ?_
    exact mz_iret S hr hlk hM hS rfl (Nat.le_of_ble_eq_true rfl) (Nat.le_of_ble_eq_true rfl) dL_remembers_18 ⟨_, rfl, rfl, h⟩
  · obtain ⟨u4, rfl, e9, h⟩ := hp
    rw [e9] at hM
    refine W.cs (cells' := 1) (slots' := 6) rfl rfl ?_
    refine lv_if_eq (tgt := 13) S.1 S.2.1 dL_remembers_6 (by decide) (fun c5 => ?_) (fun c5 => ?_)
    · have h := h.1 c5
      refine lv_iconst (v := (nI 0)) S.1 S.2.1 dL_remembers_13 (by decide) ?_
      refine W.widen (k := 1) (n := 6) (by omega) (by omega) ?_
      exact hB14  (nI 0) H locs ls hM hS (lv_sub hl [] rfl) h
    · have h := h.2 c5
      refine lv_iconst (v := (nI 1)) S.1 S.2.1 dL_remembers_9 (by decide) ?_
      refine lv_goto (tgt := 14) S.1 S.2.1 dL_remembers_10 (by decide) ?_
      refine W.widen (k := 1) (n := 6) (by omega) (by omega) ?_
      exact hB14  (nI 1) H locs ls hM hS (lv_sub hl [] rfl) h

set_option maxRecDepth 100000 in
set_option maxHeartbeats 4000000 in
theorem c_L_rememberedCount {l : Launch} {G : mgT} {μ : mmT} {r0 : Option Nat} {x1 : Int32} {Q : Int32 → Prop} (hl0 : l.stackTraces = false) (h : w_L_rememberedCount G μ r0 x1 Q) : MH G l yL_rememberedCount cL_rememberedCount 3 (some .int) [(0, 5, 6, 31)] { frames := 8, cells := 1, slots := 6, locals := 143 } [va_rf r0, .int x1] μ (pI (fun r μ' => μ' = μ ∧ Q r)) := by
  refine mz_MH (by decide +kernel) (by simp [lg_sl, mz_cat, mz_cr, mz_ci, mz_cl, mz_cf, mz_cd, mz_cn]) (fun p e s m args below meth c S hG hr hlk hnm htab => ?_)
  intro H locs ls hM hS hl
  have hl : lv_has ls 3 [(0, va_rf r0), (1, .int x1)] := by simpa [lv_args, mz_cat, mz_cr, mz_ci, mz_cl, mz_cf, mz_cd, mz_cn] using hl
  unfold w_L_rememberedCount at h
  refine mz_aload_n (x := r0) S.1 S.2.1 dL_rememberedCount_0 rfl (lv_at hl 0 rfl) ?_
  refine lv_iload_n S.1 S.2.1 dL_rememberedCount_1 rfl (lv_at hl 1 rfl) ?_
  obtain ⟨a1, e2, h⟩ := h
  refine mz_o1 e2 ?_
  obtain ⟨k3, h⟩ := h
  refine mz_VX S hG hM hS cf_9 k3 (As := [.int x1]) (rest := []) (c_X10_rememberedCount hl0 h) yf_X10_rememberedCount tw_1145 tw_1146 tw_1147 ⟨Nat.le_of_ble_eq_true rfl, Nat.le_of_ble_eq_true rfl⟩ ⟨(Nat.le_of_ble_eq_true rfl), (Nat.le_of_ble_eq_true rfl)⟩ rfl hl.1 rfl (Nat.le_of_ble_eq_true rfl) dL_rememberedCount_2 (fun E ce q9 μ9 H locs hp hM hS hc9 hv9 hcl9 => ?_) (fun v9 μ9 H locs hp hM hS => ?_)
  · obtain ⟨e9, h⟩ := hp
    rw [e9] at hM
    obtain ⟨rfl, h⟩ := h
    refine vx_catch S.2.2.2.1 (name := "java/lang/IndexOutOfBoundsException") [] ⟨0, 5, 6, 31⟩ [] (by rw [htab]; rfl) (fun z hz => absurd hz List.not_mem_nil) (by decide) (by decide) (S.2.2.2.2 _ tw_714) (hG.cast (i := 670) (by decide +kernel)) hc9 hv9 hcl9 ?_
    refine W.cs (cells' := 1) (slots' := 6) rfl rfl ?_
    refine lv_astore_n (lv' := [(2, .ref q9), (0, va_rf r0), (1, .int x1)]) S.1 S.2.1 dL_rememberedCount_6 rfl hl (by decide) rfl (fun ls hl => ?_)
    refine lv_bipush (v := (-77)) S.1 S.2.1 dL_rememberedCount_7 (by decide) ?_
    exact mz_iret S hr hlk hM hS rfl (Nat.le_of_ble_eq_true rfl) (Nat.le_of_ble_eq_true rfl) dL_rememberedCount_9 ⟨_, rfl, rfl, h⟩
  · obtain ⟨u4, rfl, e9, h⟩ := hp
    rw [e9] at hM
    refine W.cs (cells' := 1) (slots' := 6) rfl rfl ?_
    exact mz_iret S hr hlk hM hS rfl (Nat.le_of_ble_eq_true rfl) (Nat.le_of_ble_eq_true rfl) dL_rememberedCount_5 ⟨_, rfl, rfl, h⟩
set_option maxRecDepth 100000 in
set_option maxHeartbeats 4000000 in
theorem c_L_nestByDeliveries {l : Launch} {G : mgT} {μ : mmT} {r0 : Option Nat} {x1 : Int32} {Q : Int32 → Prop} (hl0 : l.stackTraces = false) (h : w_L_nestByDeliveries G μ r0 x1 Q) : MH G l yL_nestByDeliveries cL_nestByDeliveries 3 (some .int) [(0, 5, 6, 37)] { frames := 7, cells := 1, slots := 6, locals := 122 } [va_rf r0, .int x1] μ (pI (fun r μ' => μ' = μ ∧ Q r)) := by
  refine mz_MH (by decide +kernel) (by simp [lg_sl, mz_cat, mz_cr, mz_ci, mz_cl, mz_cf, mz_cd, mz_cn]) (fun p e s m args below meth c S hG hr hlk hnm htab => ?_)
  intro H locs ls hM hS hl
  have hl : lv_has ls 3 [(0, va_rf r0), (1, .int x1)] := by simpa [lv_args, mz_cat, mz_cr, mz_ci, mz_cl, mz_cf, mz_cd, mz_cn] using hl
  unfold w_L_nestByDeliveries at h
  refine mz_aload_n (x := r0) S.1 S.2.1 dL_nestByDeliveries_0 rfl (lv_at hl 0 rfl) ?_
  refine lv_iload_n S.1 S.2.1 dL_nestByDeliveries_1 rfl (lv_at hl 1 rfl) ?_
  obtain ⟨a1, e2, h⟩ := h
  refine mz_o1 e2 ?_
  obtain ⟨k3, h⟩ := h
  refine mz_VX S hG hM hS cf_9 k3 (As := [.int x1]) (rest := []) (c_X10_nestByDeliveries hl0 h) yf_X10_nestByDeliveries tw_1265 tw_1266 tw_1267 ⟨Nat.le_of_ble_eq_true rfl, Nat.le_of_ble_eq_true rfl⟩ ⟨(Nat.le_of_ble_eq_true rfl), (Nat.le_of_ble_eq_true rfl)⟩ rfl hl.1 rfl (Nat.le_of_ble_eq_true rfl) dL_nestByDeliveries_2 (fun E ce q9 μ9 H locs hp hM hS hc9 hv9 hcl9 => ?_) (fun v9 μ9 H locs hp hM hS => ?_)
  · obtain ⟨e9, h⟩ := hp
    rw [e9] at hM
    obtain ⟨rfl, h⟩ := h
    refine vx_catch S.2.2.2.1 (name := "java/util/NoSuchElementException") [] ⟨0, 5, 6, 37⟩ [] (by rw [htab]; rfl) (fun z hz => absurd hz List.not_mem_nil) (by decide) (by decide) (S.2.2.2.2 _ tw_408) (hG.cast (i := 415) (by decide +kernel)) hc9 hv9 hcl9 ?_
    refine W.cs (cells' := 1) (slots' := 6) rfl rfl ?_
    refine lv_astore_n (lv' := [(2, .ref q9), (0, va_rf r0), (1, .int x1)]) S.1 S.2.1 dL_nestByDeliveries_6 rfl hl (by decide) rfl (fun ls hl => ?_)
    refine lv_bipush (v := (-75)) S.1 S.2.1 dL_nestByDeliveries_7 (by decide) ?_
    exact mz_iret S hr hlk hM hS rfl (Nat.le_of_ble_eq_true rfl) (Nat.le_of_ble_eq_true rfl) dL_nestByDeliveries_9 ⟨_, rfl, rfl, h⟩
  · obtain ⟨u4, rfl, e9, h⟩ := hp
    rw [e9] at hM
    refine W.cs (cells' := 1) (slots' := 6) rfl rfl ?_
    exact mz_iret S hr hlk hM hS rfl (Nat.le_of_ble_eq_true rfl) (Nat.le_of_ble_eq_true rfl) dL_nestByDeliveries_5 ⟨_, rfl, rfl, h⟩
set_option maxRecDepth 100000 in
set_option maxHeartbeats 4000000 in
theorem c_L_isFlying {l : Launch} {G : mgT} {μ : mmT} {r0 : Option Nat} {x1 : Int32} {Q : Int32 → Prop} (hl0 : l.stackTraces = false) (h : w_L_isFlying G μ r0 x1 Q) : MH G l yL_isFlying cL_isFlying 3 (some .int) [(0, 13, 14, 31)] { frames := 8, cells := 1, slots := 6, locals := 143 } [va_rf r0, .int x1] μ (pI (fun r μ' => μ' = μ ∧ Q r)) := by
  refine mz_MH (by decide +kernel) (by simp [lg_sl, mz_cat, mz_cr, mz_ci, mz_cl, mz_cf, mz_cd, mz_cn]) (fun p e s m args below meth c S hG hr hlk hnm htab => ?_)
  have hB13 : ∀ (s0 : Int32) (H : Heap) (locs : List Loc) (ls : Array Slot), Mm G μ H → va_S (Ah G) s.heap H locs → lv_has ls 3 [] → w_L_isFlying_b13 G μ Q  s0 → W p l e { frames := 8, cells := 1, slots := 6, locals := 143 } s m args below meth c H locs (1) (6) (MQ below (mQ G (pI (fun r μ' => μ' = μ ∧ Q r))) args s 1 6 (Ah G)) (F0 m 13 ls [.int s0]) := by
    intro  s0 H locs ls hM hS hl h
    unfold w_L_isFlying_b13 at h
    exact mz_iret S hr hlk hM hS rfl (Nat.le_of_ble_eq_true rfl) (Nat.le_of_ble_eq_true rfl) dL_isFlying_13 ⟨_, rfl, rfl, h⟩
  intro H locs ls hM hS hl
  have hl : lv_has ls 3 [(0, va_rf r0), (1, .int x1)] := by simpa [lv_args, mz_cat, mz_cr, mz_ci, mz_cl, mz_cf, mz_cd, mz_cn] using hl
  unfold w_L_isFlying at h
  refine mz_aload_n (x := r0) S.1 S.2.1 dL_isFlying_0 rfl (lv_at hl 0 rfl) ?_
  refine lv_iload_n S.1 S.2.1 dL_isFlying_1 rfl (lv_at hl 1 rfl) ?_
  obtain ⟨a1, e2, h⟩ := h
  refine mz_o1 e2 ?_
  obtain ⟨k3, h⟩ := h
  refine mz_VX S hG hM hS cf_9 k3 (As := [.int x1]) (rest := []) (c_X10_isFlying hl0 h) yf_X10_isFlying tw_1250 tw_1251 tw_1252 ⟨Nat.le_of_ble_eq_true rfl, Nat.le_of_ble_eq_true rfl⟩ ⟨(Nat.le_of_ble_eq_true rfl), (Nat.le_of_ble_eq_true rfl)⟩ rfl hl.1 rfl (Nat.le_of_ble_eq_true rfl) dL_isFlying_2 (fun E ce q9 μ9 H locs hp hM hS hc9 hv9 hcl9 => ?_) (fun v9 μ9 H locs hp hM hS => ?_)
  · obtain ⟨e9, h⟩ := hp
    rw [e9] at hM
    obtain ⟨rfl, h⟩ := h
    refine vx_catch S.2.2.2.1 (name := "java/lang/IndexOutOfBoundsException") [] ⟨0, 13, 14, 31⟩ [] (by rw [htab]; rfl) (fun z hz => absurd hz List.not_mem_nil) (by decide) (by decide) (S.2.2.2.2 _ tw_714) (hG.cast (i := 670) (by decide +kernel)) hc9 hv9 hcl9 ?_
    refine W.cs (cells' := 1) (slots' := 6) rfl rfl ?_
    refine lv_astore_n (lv' := [(2, .ref q9), (0, va_rf r0), (1, .int x1)]) S.1 S.2.1 dL_isFlying_14 rfl hl (by decide) rfl (fun ls hl => ?_)
    refine lv_bipush (v := (-77)) S.1 S.2.1 dL_isFlying_15 (by decide) ?_
    exact mz_iret S hr hlk hM hS rfl (Nat.le_of_ble_eq_true rfl) (Nat.le_of_ble_eq_true rfl) dL_isFlying_17 ⟨_, rfl, rfl, h⟩
  · obtain ⟨u4, rfl, e9, h⟩ := hp
    rw [e9] at hM
    refine W.cs (cells' := 1) (slots' := 6) rfl rfl ?_
    refine lv_if_eq (tgt := 12) S.1 S.2.1 dL_isFlying_5 (by decide) (fun c5 => ?_) (fun c5 => ?_)
    · have h := h.1 c5
      refine lv_iconst (v := (nI 0)) S.1 S.2.1 dL_isFlying_12 (by decide) ?_
      refine W.widen (k := 1) (n := 6) (by omega) (by omega) ?_
      exact hB13  (nI 0) H locs ls hM hS (lv_sub hl [] rfl) h
    · have h := h.2 c5
      refine lv_iconst (v := (nI 1)) S.1 S.2.1 dL_isFlying_8 (by decide) ?_
      refine lv_goto (tgt := 13) S.1 S.2.1 dL_isFlying_9 (by decide) ?_
      refine W.widen (k := 1) (n := 6) (by omega) (by omega) ?_
      exact hB13  (nI 1) H locs ls hM hS (lv_sub hl [] rfl) h
set_option maxRecDepth 100000 in
set_option maxHeartbeats 4000000 in
theorem c_L_carriedMessage {l : Launch} {G : mgT} {μ : mmT} {r0 : Option Nat} {x1 : Int32} {Q : Int32 → Prop} (hl0 : l.stackTraces = false) (h : w_L_carriedMessage G μ r0 x1 Q) : MH G l yL_carriedMessage cL_carriedMessage 3 (some .int) [(0, 5, 6, 31), (0, 5, 10, 37)] { frames := 8, cells := 2, slots := 12, locals := 144 } [va_rf r0, .int x1] μ (pI (fun r μ' => μ' = μ ∧ Q r)) := by
  refine mz_MH (by decide +kernel) (by simp [lg_sl, mz_cat, mz_cr, mz_ci, mz_cl, mz_cf, mz_cd, mz_cn]) (fun p e s m args below meth c S hG hr hlk hnm htab => ?_)
  intro H locs ls hM hS hl
  have hl : lv_has ls 3 [(0, va_rf r0), (1, .int x1)] := by simpa [lv_args, mz_cat, mz_cr, mz_ci, mz_cl, mz_cf, mz_cd, mz_cn] using hl
  unfold w_L_carriedMessage at h
  refine mz_aload_n (x := r0) S.1 S.2.1 dL_carriedMessage_0 rfl (lv_at hl 0 rfl) ?_
  refine lv_iload_n S.1 S.2.1 dL_carriedMessage_1 rfl (lv_at hl 1 rfl) ?_
  obtain ⟨a1, e2, h⟩ := h
  refine mz_o1 e2 ?_
  obtain ⟨k3, h⟩ := h
  refine mz_VX S hG hM hS cf_9 k3 (As := [.int x1]) (rest := []) (c_X10_carriedMessage hl0 h) yf_X10_carriedMessage tw_1170 tw_1171 tw_1172 ⟨Nat.le_of_ble_eq_true rfl, Nat.le_of_ble_eq_true rfl⟩ ⟨(Nat.le_of_ble_eq_true rfl), (Nat.le_of_ble_eq_true rfl)⟩ rfl hl.1 rfl (Nat.le_of_ble_eq_true rfl) dL_carriedMessage_2 (fun E ce q9 μ9 H locs hp hM hS hc9 hv9 hcl9 => ?_) (fun v9 μ9 H locs hp hM hS => ?_)
  · obtain ⟨e9, h⟩ := hp
    rw [e9] at hM
    rcases h with ⟨rfl, h⟩ | h
    · refine vx_catch S.2.2.2.1 (name := "java/lang/IndexOutOfBoundsException") [] ⟨0, 5, 6, 31⟩ [⟨0, 5, 10, 37⟩] (by rw [htab]; rfl) (fun z hz => absurd hz List.not_mem_nil) (by decide) (by decide) (S.2.2.2.2 _ tw_714) (hG.cast (i := 670) (by decide +kernel)) hc9 hv9 hcl9 ?_
      refine W.cs (cells' := 2) (slots' := 12) rfl rfl ?_
      refine lv_astore_n (lv' := [(2, .ref q9), (0, va_rf r0), (1, .int x1)]) S.1 S.2.1 dL_carriedMessage_6 rfl hl (by decide) rfl (fun ls hl => ?_)
      refine lv_bipush (v := (-77)) S.1 S.2.1 dL_carriedMessage_7 (by decide) ?_
      exact mz_iret S hr hlk hM hS rfl (Nat.le_of_ble_eq_true rfl) (Nat.le_of_ble_eq_true rfl) dL_carriedMessage_9 ⟨_, rfl, rfl, h⟩
    obtain ⟨rfl, h⟩ := h
    refine vx_catch S.2.2.2.1 (name := "java/util/NoSuchElementException") [⟨0, 5, 6, 31⟩] ⟨0, 5, 10, 37⟩ [] (by rw [htab]; rfl) (fun z hz => (List.mem_cons.mp hz).elim (fun e9 => by subst e9; exact Or.inr ⟨by decide, "java/lang/IndexOutOfBoundsException", S.2.2.2.2 _ tw_714, hG.nc (by decide)⟩) (fun hz => absurd hz List.not_mem_nil)) (by decide) (by decide) (S.2.2.2.2 _ tw_408) (hG.cast (i := 415) (by decide +kernel)) hc9 hv9 hcl9 ?_
    refine W.cs (cells' := 2) (slots' := 12) rfl rfl ?_
    refine lv_astore_n (lv' := [(2, .ref q9), (0, va_rf r0), (1, .int x1)]) S.1 S.2.1 dL_carriedMessage_10 rfl hl (by decide) rfl (fun ls hl => ?_)
    refine lv_bipush (v := (-75)) S.1 S.2.1 dL_carriedMessage_11 (by decide) ?_
    exact mz_iret S hr hlk hM hS rfl (Nat.le_of_ble_eq_true rfl) (Nat.le_of_ble_eq_true rfl) dL_carriedMessage_13 ⟨_, rfl, rfl, h⟩
  · obtain ⟨u4, rfl, e9, h⟩ := hp
    rw [e9] at hM
    refine W.cs (cells' := 2) (slots' := 12) rfl rfl ?_
    exact mz_iret S hr hlk hM hS rfl (Nat.le_of_ble_eq_true rfl) (Nat.le_of_ble_eq_true rfl) dL_carriedMessage_5 ⟨_, rfl, rfl, h⟩
set_option maxRecDepth 100000 in
set_option maxHeartbeats 4000000 in
theorem c_L_flightMinutes {l : Launch} {G : mgT} {μ : mmT} {r0 : Option Nat} {x1 : Int32} {Q : Int32 → Prop} (hl0 : l.stackTraces = false) (h : w_L_flightMinutes G μ r0 x1 Q) : MH G l yL_flightMinutes cL_flightMinutes 3 (some .int) [(0, 5, 6, 31)] { frames := 8, cells := 1, slots := 6, locals := 144 } [va_rf r0, .int x1] μ (pI (fun r μ' => μ' = μ ∧ Q r)) := by
  refine mz_MH (by decide +kernel) (by simp [lg_sl, mz_cat, mz_cr, mz_ci, mz_cl, mz_cf, mz_cd, mz_cn]) (fun p e s m args below meth c S hG hr hlk hnm htab => ?_)
  intro H locs ls hM hS hl
  have hl : lv_has ls 3 [(0, va_rf r0), (1, .int x1)] := by simpa [lv_args, mz_cat, mz_cr, mz_ci, mz_cl, mz_cf, mz_cd, mz_cn] using hl
  unfold w_L_flightMinutes at h
  refine mz_aload_n (x := r0) S.1 S.2.1 dL_flightMinutes_0 rfl (lv_at hl 0 rfl) ?_
  refine lv_iload_n S.1 S.2.1 dL_flightMinutes_1 rfl (lv_at hl 1 rfl) ?_
  obtain ⟨a1, e2, h⟩ := h
  refine mz_o1 e2 ?_
  obtain ⟨k3, h⟩ := h
  refine mz_VX S hG hM hS cf_9 k3 (As := [.int x1]) (rest := []) (c_X10_flightMinutes hl0 h) yf_X10_flightMinutes tw_1187 tw_1188 tw_1189 ⟨Nat.le_of_ble_eq_true rfl, Nat.le_of_ble_eq_true rfl⟩ ⟨(Nat.le_of_ble_eq_true rfl), (Nat.le_of_ble_eq_true rfl)⟩ rfl hl.1 rfl (Nat.le_of_ble_eq_true rfl) dL_flightMinutes_2 (fun E ce q9 μ9 H locs hp hM hS hc9 hv9 hcl9 => ?_) (fun v9 μ9 H locs hp hM hS => ?_)
  · obtain ⟨e9, h⟩ := hp
    rw [e9] at hM
    obtain ⟨rfl, h⟩ := h
    refine vx_catch S.2.2.2.1 (name := "java/lang/IndexOutOfBoundsException") [] ⟨0, 5, 6, 31⟩ [] (by rw [htab]; rfl) (fun z hz => absurd hz List.not_mem_nil) (by decide) (by decide) (S.2.2.2.2 _ tw_714) (hG.cast (i := 670) (by decide +kernel)) hc9 hv9 hcl9 ?_
    refine W.cs (cells' := 1) (slots' := 6) rfl rfl ?_
    refine lv_astore_n (lv' := [(2, .ref q9), (0, va_rf r0), (1, .int x1)]) S.1 S.2.1 dL_flightMinutes_6 rfl hl (by decide) rfl (fun ls hl => ?_)
    refine lv_bipush (v := (-77)) S.1 S.2.1 dL_flightMinutes_7 (by decide) ?_
    exact mz_iret S hr hlk hM hS rfl (Nat.le_of_ble_eq_true rfl) (Nat.le_of_ble_eq_true rfl) dL_flightMinutes_9 ⟨_, rfl, rfl, h⟩
  · obtain ⟨u4, rfl, e9, h⟩ := hp
    rw [e9] at hM
    refine W.cs (cells' := 1) (slots' := 6) rfl rfl ?_
    exact mz_iret S hr hlk hM hS rfl (Nat.le_of_ble_eq_true rfl) (Nat.le_of_ble_eq_true rfl) dL_flightMinutes_5 ⟨_, rfl, rfl, h⟩
set_option maxRecDepth 100000 in
set_option maxHeartbeats 4000000 in
theorem c_L_messageAt {l : Launch} {G : mgT} {μ : mmT} {r0 : Option Nat} {x1 : Int32} {Q : Int32 → Prop} (hl0 : l.stackTraces = false) (h : w_L_messageAt G μ r0 x1 Q) : MH G l yL_messageAt cL_messageAt 3 (some .int) [(0, 5, 6, 37)] { frames := 7, cells := 1, slots := 6, locals := 121 } [va_rf r0, .int x1] μ (pI (fun r μ' => μ' = μ ∧ Q r)) := by
  refine mz_MH (by decide +kernel) (by simp [lg_sl, mz_cat, mz_cr, mz_ci, mz_cl, mz_cf, mz_cd, mz_cn]) (fun p e s m args below meth c S hG hr hlk hnm htab => ?_)
  intro H locs ls hM hS hl
  have hl : lv_has ls 3 [(0, va_rf r0), (1, .int x1)] := by simpa [lv_args, mz_cat, mz_cr, mz_ci, mz_cl, mz_cf, mz_cd, mz_cn] using hl
  unfold w_L_messageAt at h
  refine mz_aload_n (x := r0) S.1 S.2.1 dL_messageAt_0 rfl (lv_at hl 0 rfl) ?_
  refine lv_iload_n S.1 S.2.1 dL_messageAt_1 rfl (lv_at hl 1 rfl) ?_
  obtain ⟨a1, e2, h⟩ := h
  refine mz_o1 e2 ?_
  obtain ⟨k3, h⟩ := h
  refine mz_VX S hG hM hS cf_9 k3 (As := [.int x1]) (rest := []) (c_X10_messageAt hl0 h) yf_X10_messageAt tw_409 tw_410 tw_411 ⟨Nat.le_of_ble_eq_true rfl, Nat.le_of_ble_eq_true rfl⟩ ⟨(Nat.le_of_ble_eq_true rfl), (Nat.le_of_ble_eq_true rfl)⟩ rfl hl.1 rfl (Nat.le_of_ble_eq_true rfl) dL_messageAt_2 (fun E ce q9 μ9 H locs hp hM hS hc9 hv9 hcl9 => ?_) (fun v9 μ9 H locs hp hM hS => ?_)
  · obtain ⟨e9, h⟩ := hp
    rw [e9] at hM
    obtain ⟨rfl, h⟩ := h
    refine vx_catch S.2.2.2.1 (name := "java/util/NoSuchElementException") [] ⟨0, 5, 6, 37⟩ [] (by rw [htab]; rfl) (fun z hz => absurd hz List.not_mem_nil) (by decide) (by decide) (S.2.2.2.2 _ tw_408) (hG.cast (i := 415) (by decide +kernel)) hc9 hv9 hcl9 ?_
    refine W.cs (cells' := 1) (slots' := 6) rfl rfl ?_
    refine lv_astore_n (lv' := [(2, .ref q9), (0, va_rf r0), (1, .int x1)]) S.1 S.2.1 dL_messageAt_6 rfl hl (by decide) rfl (fun ls hl => ?_)
    refine lv_bipush (v := (-75)) S.1 S.2.1 dL_messageAt_7 (by decide) ?_
    exact mz_iret S hr hlk hM hS rfl (Nat.le_of_ble_eq_true rfl) (Nat.le_of_ble_eq_true rfl) dL_messageAt_9 ⟨_, rfl, rfl, h⟩
  · obtain ⟨u4, rfl, e9, h⟩ := hp
    rw [e9] at hM
    refine W.cs (cells' := 1) (slots' := 6) rfl rfl ?_
    exact mz_iret S hr hlk hM hS rfl (Nat.le_of_ble_eq_true rfl) (Nat.le_of_ble_eq_true rfl) dL_messageAt_5 ⟨_, rfl, rfl, h⟩
set_option maxRecDepth 100000 in
set_option maxHeartbeats 4000000 in
theorem c_L_nestOf {l : Launch} {G : mgT} {μ : mmT} {r0 : Option Nat} {x1 : Int32} {Q : Int32 → Prop} (hl0 : l.stackTraces = false) (h : w_L_nestOf G μ r0 x1 Q) : MH G l yL_nestOf cL_nestOf 3 (some .int) [(0, 5, 6, 37)] { frames := 8, cells := 1, slots := 6, locals := 143 } [va_rf r0, .int x1] μ (pI (fun r μ' => μ' = μ ∧ Q r)) := by
  refine mz_MH (by decide +kernel) (by simp [lg_sl, mz_cat, mz_cr, mz_ci, mz_cl, mz_cf, mz_cd, mz_cn]) (fun p e s m args below meth c S hG hr hlk hnm htab => ?_)
  intro H locs ls hM hS hl
  have hl : lv_has ls 3 [(0, va_rf r0), (1, .int x1)] := by simpa [lv_args, mz_cat, mz_cr, mz_ci, mz_cl, mz_cf, mz_cd, mz_cn] using hl
  unfold w_L_nestOf at h
  refine mz_aload_n (x := r0) S.1 S.2.1 dL_nestOf_0 rfl (lv_at hl 0 rfl) ?_
  refine lv_iload_n S.1 S.2.1 dL_nestOf_1 rfl (lv_at hl 1 rfl) ?_
  obtain ⟨a1, e2, h⟩ := h
  refine mz_o1 e2 ?_
  obtain ⟨k3, h⟩ := h
  refine mz_VX S hG hM hS cf_9 k3 (As := [.int x1]) (rest := []) (c_X10_nestOf hl0 h) yf_X10_nestOf tw_1194 tw_1195 tw_1196 ⟨Nat.le_of_ble_eq_true rfl, Nat.le_of_ble_eq_true rfl⟩ ⟨(Nat.le_of_ble_eq_true rfl), (Nat.le_of_ble_eq_true rfl)⟩ rfl hl.1 rfl (Nat.le_of_ble_eq_true rfl) dL_nestOf_2 (fun E ce q9 μ9 H locs hp hM hS hc9 hv9 hcl9 => ?_) (fun v9 μ9 H locs hp hM hS => ?_)
  · obtain ⟨e9, h⟩ := hp
    rw [e9] at hM
    obtain ⟨rfl, h⟩ := h
    refine vx_catch S.2.2.2.1 (name := "java/util/NoSuchElementException") [] ⟨0, 5, 6, 37⟩ [] (by rw [htab]; rfl) (fun z hz => absurd hz List.not_mem_nil) (by decide) (by decide) (S.2.2.2.2 _ tw_408) (hG.cast (i := 415) (by decide +kernel)) hc9 hv9 hcl9 ?_
    refine W.cs (cells' := 1) (slots' := 6) rfl rfl ?_
    refine lv_astore_n (lv' := [(2, .ref q9), (0, va_rf r0), (1, .int x1)]) S.1 S.2.1 dL_nestOf_6 rfl hl (by decide) rfl (fun ls hl => ?_)
    refine lv_bipush (v := (-75)) S.1 S.2.1 dL_nestOf_7 (by decide) ?_
    exact mz_iret S hr hlk hM hS rfl (Nat.le_of_ble_eq_true rfl) (Nat.le_of_ble_eq_true rfl) dL_nestOf_9 ⟨_, rfl, rfl, h⟩
  · obtain ⟨u4, rfl, e9, h⟩ := hp
    rw [e9] at hM
    refine W.cs (cells' := 1) (slots' := 6) rfl rfl ?_
    exact mz_iret S hr hlk hM hS rfl (Nat.le_of_ble_eq_true rfl) (Nat.le_of_ble_eq_true rfl) dL_nestOf_5 ⟨_, rfl, rfl, h⟩
set_option maxRecDepth 100000 in
set_option maxHeartbeats 4000000 in
theorem c_L_keyOf {l : Launch} {G : mgT} {μ : mmT} {r0 : Option Nat} {x1 : Int32} {Q : Int32 → Prop} (hl0 : l.stackTraces = false) (h : w_L_keyOf G μ r0 x1 Q) : MH G l yL_keyOf cL_keyOf 3 (some .int) [(0, 5, 6, 37)] { frames := 8, cells := 1, slots := 6, locals := 143 } [va_rf r0, .int x1] μ (pI (fun r μ' => μ' = μ ∧ Q r)) := by
  refine mz_MH (by decide +kernel) (by simp [lg_sl, mz_cat, mz_cr, mz_ci, mz_cl, mz_cf, mz_cd, mz_cn]) (fun p e s m args below meth c S hG hr hlk hnm htab => ?_)
  intro H locs ls hM hS hl
  have hl : lv_has ls 3 [(0, va_rf r0), (1, .int x1)] := by simpa [lv_args, mz_cat, mz_cr, mz_ci, mz_cl, mz_cf, mz_cd, mz_cn] using hl
  unfold w_L_keyOf at h
  refine mz_aload_n (x := r0) S.1 S.2.1 dL_keyOf_0 rfl (lv_at hl 0 rfl) ?_
  refine lv_iload_n S.1 S.2.1 dL_keyOf_1 rfl (lv_at hl 1 rfl) ?_
  obtain ⟨a1, e2, h⟩ := h
  refine mz_o1 e2 ?_
  obtain ⟨k3, h⟩ := h
  refine mz_VX S hG hM hS cf_9 k3 (As := [.int x1]) (rest := []) (c_X10_keyOf hl0 h) yf_X10_keyOf tw_1201 tw_1202 tw_1203 ⟨Nat.le_of_ble_eq_true rfl, Nat.le_of_ble_eq_true rfl⟩ ⟨(Nat.le_of_ble_eq_true rfl), (Nat.le_of_ble_eq_true rfl)⟩ rfl hl.1 rfl (Nat.le_of_ble_eq_true rfl) dL_keyOf_2 (fun E ce q9 μ9 H locs hp hM hS hc9 hv9 hcl9 => ?_) (fun v9 μ9 H locs hp hM hS => ?_)
  · obtain ⟨e9, h⟩ := hp
    rw [e9] at hM
    obtain ⟨rfl, h⟩ := h
    refine vx_catch S.2.2.2.1 (name := "java/util/NoSuchElementException") [] ⟨0, 5, 6, 37⟩ [] (by rw [htab]; rfl) (fun z hz => absurd hz List.not_mem_nil) (by decide) (by decide) (S.2.2.2.2 _ tw_408) (hG.cast (i := 415) (by decide +kernel)) hc9 hv9 hcl9 ?_
    refine W.cs (cells' := 1) (slots' := 6) rfl rfl ?_
    refine lv_astore_n (lv' := [(2, .ref q9), (0, va_rf r0), (1, .int x1)]) S.1 S.2.1 dL_keyOf_6 rfl hl (by decide) rfl (fun ls hl => ?_)
    refine lv_bipush (v := (-75)) S.1 S.2.1 dL_keyOf_7 (by decide) ?_
    exact mz_iret S hr hlk hM hS rfl (Nat.le_of_ble_eq_true rfl) (Nat.le_of_ble_eq_true rfl) dL_keyOf_9 ⟨_, rfl, rfl, h⟩
  · obtain ⟨u4, rfl, e9, h⟩ := hp
    rw [e9] at hM
    refine W.cs (cells' := 1) (slots' := 6) rfl rfl ?_
    exact mz_iret S hr hlk hM hS rfl (Nat.le_of_ble_eq_true rfl) (Nat.le_of_ble_eq_true rfl) dL_keyOf_5 ⟨_, rfl, rfl, h⟩
set_option maxRecDepth 100000 in
set_option maxHeartbeats 4000000 in
theorem c_L_attempts {l : Launch} {G : mgT} {μ : mmT} {r0 : Option Nat} {x1 : Int32} {Q : Int32 → Prop} (hl0 : l.stackTraces = false) (h : w_L_attempts G μ r0 x1 Q) : MH G l yL_attempts cL_attempts 3 (some .int) [(0, 5, 6, 37)] { frames := 8, cells := 1, slots := 6, locals := 143 } [va_rf r0, .int x1] μ (pI (fun r μ' => μ' = μ ∧ Q r)) := by
  refine mz_MH (by decide +kernel) (by simp [lg_sl, mz_cat, mz_cr, mz_ci, mz_cl, mz_cf, mz_cd, mz_cn]) (fun p e s m args below meth c S hG hr hlk hnm htab => ?_)
  intro H locs ls hM hS hl
  have hl : lv_has ls 3 [(0, va_rf r0), (1, .int x1)] := by simpa [lv_args, mz_cat, mz_cr, mz_ci, mz_cl, mz_cf, mz_cd, mz_cn] using hl
  unfold w_L_attempts at h
  refine mz_aload_n (x := r0) S.1 S.2.1 dL_attempts_0 rfl (lv_at hl 0 rfl) ?_
  refine lv_iload_n S.1 S.2.1 dL_attempts_1 rfl (lv_at hl 1 rfl) ?_
  obtain ⟨a1, e2, h⟩ := h
  refine mz_o1 e2 ?_
  obtain ⟨k3, h⟩ := h
  refine mz_VX S hG hM hS cf_9 k3 (As := [.int x1]) (rest := []) (c_X10_attempts hl0 h) yf_X10_attempts tw_1208 tw_1209 tw_1210 ⟨Nat.le_of_ble_eq_true rfl, Nat.le_of_ble_eq_true rfl⟩ ⟨(Nat.le_of_ble_eq_true rfl), (Nat.le_of_ble_eq_true rfl)⟩ rfl hl.1 rfl (Nat.le_of_ble_eq_true rfl) dL_attempts_2 (fun E ce q9 μ9 H locs hp hM hS hc9 hv9 hcl9 => ?_) (fun v9 μ9 H locs hp hM hS => ?_)
  · obtain ⟨e9, h⟩ := hp
    rw [e9] at hM
    obtain ⟨rfl, h⟩ := h
    refine vx_catch S.2.2.2.1 (name := "java/util/NoSuchElementException") [] ⟨0, 5, 6, 37⟩ [] (by rw [htab]; rfl) (fun z hz => absurd hz List.not_mem_nil) (by decide) (by decide) (S.2.2.2.2 _ tw_408) (hG.cast (i := 415) (by decide +kernel)) hc9 hv9 hcl9 ?_
    refine W.cs (cells' := 1) (slots' := 6) rfl rfl ?_
    refine lv_astore_n (lv' := [(2, .ref q9), (0, va_rf r0), (1, .int x1)]) S.1 S.2.1 dL_attempts_6 rfl hl (by decide) rfl (fun ls hl => ?_)
    refine lv_bipush (v := (-75)) S.1 S.2.1 dL_attempts_7 (by decide) ?_
    exact mz_iret S hr hlk hM hS rfl (Nat.le_of_ble_eq_true rfl) (Nat.le_of_ble_eq_true rfl) dL_attempts_9 ⟨_, rfl, rfl, h⟩
  · obtain ⟨u4, rfl, e9, h⟩ := hp
    rw [e9] at hM
    refine W.cs (cells' := 1) (slots' := 6) rfl rfl ?_
    exact mz_iret S hr hlk hM hS rfl (Nat.le_of_ble_eq_true rfl) (Nat.le_of_ble_eq_true rfl) dL_attempts_5 ⟨_, rfl, rfl, h⟩
set_option maxRecDepth 100000 in
set_option maxHeartbeats 4000000 in
theorem c_L_status {l : Launch} {G : mgT} {μ : mmT} {r0 : Option Nat} {x1 : Int32} {Q : Int32 → Prop} (hl0 : l.stackTraces = false) (h : w_L_status G μ r0 x1 Q) : MH G l yL_status cL_status 3 (some .int) [(0, 5, 6, 37)] { frames := 8, cells := 1, slots := 6, locals := 143 } [va_rf r0, .int x1] μ (pI (fun r μ' => μ' = μ ∧ Q r)) := by
  refine mz_MH (by decide +kernel) (by simp [lg_sl, mz_cat, mz_cr, mz_ci, mz_cl, mz_cf, mz_cd, mz_cn]) (fun p e s m args below meth c S hG hr hlk hnm htab => ?_)
  intro H locs ls hM hS hl
  have hl : lv_has ls 3 [(0, va_rf r0), (1, .int x1)] := by simpa [lv_args, mz_cat, mz_cr, mz_ci, mz_cl, mz_cf, mz_cd, mz_cn] using hl
  unfold w_L_status at h
  refine mz_aload_n (x := r0) S.1 S.2.1 dL_status_0 rfl (lv_at hl 0 rfl) ?_
  refine lv_iload_n S.1 S.2.1 dL_status_1 rfl (lv_at hl 1 rfl) ?_
  obtain ⟨a1, e2, h⟩ := h
  refine mz_o1 e2 ?_
  obtain ⟨k3, h⟩ := h
  refine mz_VX S hG hM hS cf_9 k3 (As := [.int x1]) (rest := []) (c_X10_status hl0 h) yf_X10_status tw_486 tw_487 tw_488 ⟨Nat.le_of_ble_eq_true rfl, Nat.le_of_ble_eq_true rfl⟩ ⟨(Nat.le_of_ble_eq_true rfl), (Nat.le_of_ble_eq_true rfl)⟩ rfl hl.1 rfl (Nat.le_of_ble_eq_true rfl) dL_status_2 (fun E ce q9 μ9 H locs hp hM hS hc9 hv9 hcl9 => ?_) (fun v9 μ9 H locs hp hM hS => ?_)
  · obtain ⟨e9, h⟩ := hp
    rw [e9] at hM
    obtain ⟨rfl, h⟩ := h
    refine vx_catch S.2.2.2.1 (name := "java/util/NoSuchElementException") [] ⟨0, 5, 6, 37⟩ [] (by rw [htab]; rfl) (fun z hz => absurd hz List.not_mem_nil) (by decide) (by decide) (S.2.2.2.2 _ tw_408) (hG.cast (i := 415) (by decide +kernel)) hc9 hv9 hcl9 ?_
    refine W.cs (cells' := 1) (slots' := 6) rfl rfl ?_
    refine lv_astore_n (lv' := [(2, .ref q9), (0, va_rf r0), (1, .int x1)]) S.1 S.2.1 dL_status_6 rfl hl (by decide) rfl (fun ls hl => ?_)
    refine lv_bipush (v := (-75)) S.1 S.2.1 dL_status_7 (by decide) ?_
    exact mz_iret S hr hlk hM hS rfl (Nat.le_of_ble_eq_true rfl) (Nat.le_of_ble_eq_true rfl) dL_status_9 ⟨_, rfl, rfl, h⟩
  · obtain ⟨u4, rfl, e9, h⟩ := hp
    rw [e9] at hM
    refine W.cs (cells' := 1) (slots' := 6) rfl rfl ?_
    exact mz_iret S hr hlk hM hS rfl (Nat.le_of_ble_eq_true rfl) (Nat.le_of_ble_eq_true rfl) dL_status_5 ⟨_, rfl, rfl, h⟩
set_option maxRecDepth 100000 in
set_option maxHeartbeats 4000000 in
theorem c_L_napMinutes {l : Launch} {G : mgT} {μ : mmT} {r0 : Option Nat} {x1 : Int32} {Q : Int32 → Prop} (hl0 : l.stackTraces = false) (h : w_L_napMinutes G μ r0 x1 Q) : MH G l yL_napMinutes cL_napMinutes 3 (some .int) [(0, 5, 6, 37), (0, 5, 10, 22)] { frames := 8, cells := 2, slots := 12, locals := 144 } [va_rf r0, .int x1] μ (pI (fun r μ' => μ' = μ ∧ Q r)) := by
  refine mz_MH (by decide +kernel) (by simp [lg_sl, mz_cat, mz_cr, mz_ci, mz_cl, mz_cf, mz_cd, mz_cn]) (fun p e s m args below meth c S hG hr hlk hnm htab => ?_)
  intro H locs ls hM hS hl
  have hl : lv_has ls 3 [(0, va_rf r0), (1, .int x1)] := by simpa [lv_args, mz_cat, mz_cr, mz_ci, mz_cl, mz_cf, mz_cd, mz_cn] using hl
  unfold w_L_napMinutes at h
  refine mz_aload_n (x := r0) S.1 S.2.1 dL_napMinutes_0 rfl (lv_at hl 0 rfl) ?_
  refine lv_iload_n S.1 S.2.1 dL_napMinutes_1 rfl (lv_at hl 1 rfl) ?_
  obtain ⟨a1, e2, h⟩ := h
  refine mz_o1 e2 ?_
  obtain ⟨k3, h⟩ := h
  refine mz_VX S hG hM hS cf_9 k3 (As := [.int x1]) (rest := []) (c_X10_napMinutes hl0 h) yf_X10_napMinutes tw_507 tw_508 tw_509 ⟨Nat.le_of_ble_eq_true rfl, Nat.le_of_ble_eq_true rfl⟩ ⟨(Nat.le_of_ble_eq_true rfl), (Nat.le_of_ble_eq_true rfl)⟩ rfl hl.1 rfl (Nat.le_of_ble_eq_true rfl) dL_napMinutes_2 (fun E ce q9 μ9 H locs hp hM hS hc9 hv9 hcl9 => ?_) (fun v9 μ9 H locs hp hM hS => ?_)
  · obtain ⟨e9, h⟩ := hp
    rw [e9] at hM
    rcases h with ⟨rfl, h⟩ | h
    · refine vx_catch S.2.2.2.1 (name := "java/util/NoSuchElementException") [] ⟨0, 5, 6, 37⟩ [⟨0, 5, 10, 22⟩] (by rw [htab]; rfl) (fun z hz => absurd hz List.not_mem_nil) (by decide) (by decide) (S.2.2.2.2 _ tw_408) (hG.cast (i := 415) (by decide +kernel)) hc9 hv9 hcl9 ?_
      refine W.cs (cells' := 2) (slots' := 12) rfl rfl ?_
      refine lv_astore_n (lv' := [(2, .ref q9), (0, va_rf r0), (1, .int x1)]) S.1 S.2.1 dL_napMinutes_6 rfl hl (by decide) rfl (fun ls hl => ?_)
      refine lv_bipush (v := (-75)) S.1 S.2.1 dL_napMinutes_7 (by decide) ?_
      exact mz_iret S hr hlk hM hS rfl (Nat.le_of_ble_eq_true rfl) (Nat.le_of_ble_eq_true rfl) dL_napMinutes_9 ⟨_, rfl, rfl, h⟩
    obtain ⟨rfl, h⟩ := h
    refine vx_catch S.2.2.2.1 (name := "java/lang/IllegalStateException") [⟨0, 5, 6, 37⟩] ⟨0, 5, 10, 22⟩ [] (by rw [htab]; rfl) (fun z hz => (List.mem_cons.mp hz).elim (fun e9 => by subst e9; exact Or.inr ⟨by decide, "java/util/NoSuchElementException", S.2.2.2.2 _ tw_408, hG.nc (by decide)⟩) (fun hz => absurd hz List.not_mem_nil)) (by decide) (by decide) (S.2.2.2.2 _ tw_506) (hG.cast (i := 513) (by decide +kernel)) hc9 hv9 hcl9 ?_
    refine W.cs (cells' := 2) (slots' := 12) rfl rfl ?_
    refine lv_astore_n (lv' := [(2, .ref q9), (0, va_rf r0), (1, .int x1)]) S.1 S.2.1 dL_napMinutes_10 rfl hl (by decide) rfl (fun ls hl => ?_)
    refine lv_bipush (v := (-79)) S.1 S.2.1 dL_napMinutes_11 (by decide) ?_
    exact mz_iret S hr hlk hM hS rfl (Nat.le_of_ble_eq_true rfl) (Nat.le_of_ble_eq_true rfl) dL_napMinutes_13 ⟨_, rfl, rfl, h⟩
  · obtain ⟨u4, rfl, e9, h⟩ := hp
    rw [e9] at hM
    refine W.cs (cells' := 2) (slots' := 12) rfl rfl ?_
    exact mz_iret S hr hlk hM hS rfl (Nat.le_of_ble_eq_true rfl) (Nat.le_of_ble_eq_true rfl) dL_napMinutes_5 ⟨_, rfl, rfl, h⟩
set_option maxRecDepth 100000 in
set_option maxHeartbeats 4000000 in
theorem c_L_waitingMessage {l : Launch} {G : mgT} {μ : mmT} {r0 : Option Nat} {x1 : Int32} {Q : Int32 → Prop} (hl0 : l.stackTraces = false) (h : w_L_waitingMessage G μ r0 x1 Q) : MH G l yL_waitingMessage cL_waitingMessage 3 (some .int) [(0, 5, 6, 37)] { frames := 7, cells := 1, slots := 6, locals := 122 } [va_rf r0, .int x1] μ (pI (fun r μ' => μ' = μ ∧ Q r)) := by
  refine mz_MH (by decide +kernel) (by simp [lg_sl, mz_cat, mz_cr, mz_ci, mz_cl, mz_cf, mz_cd, mz_cn]) (fun p e s m args below meth c S hG hr hlk hnm htab => ?_)
  intro H locs ls hM hS hl
  have hl : lv_has ls 3 [(0, va_rf r0), (1, .int x1)] := by simpa [lv_args, mz_cat, mz_cr, mz_ci, mz_cl, mz_cf, mz_cd, mz_cn] using hl
  unfold w_L_waitingMessage at h
  refine mz_aload_n (x := r0) S.1 S.2.1 dL_waitingMessage_0 rfl (lv_at hl 0 rfl) ?_
  refine lv_iload_n S.1 S.2.1 dL_waitingMessage_1 rfl (lv_at hl 1 rfl) ?_
  obtain ⟨a1, e2, h⟩ := h
  refine mz_o1 e2 ?_
  obtain ⟨k3, h⟩ := h
  refine mz_VX S hG hM hS cf_9 k3 (As := [.int x1]) (rest := []) (c_X10_waitingMessage hl0 h) yf_X10_waitingMessage tw_1222 tw_1223 tw_1224 ⟨Nat.le_of_ble_eq_true rfl, Nat.le_of_ble_eq_true rfl⟩ ⟨(Nat.le_of_ble_eq_true rfl), (Nat.le_of_ble_eq_true rfl)⟩ rfl hl.1 rfl (Nat.le_of_ble_eq_true rfl) dL_waitingMessage_2 (fun E ce q9 μ9 H locs hp hM hS hc9 hv9 hcl9 => ?_) (fun v9 μ9 H locs hp hM hS => ?_)
  · obtain ⟨e9, h⟩ := hp
    rw [e9] at hM
    obtain ⟨rfl, h⟩ := h
    refine vx_catch S.2.2.2.1 (name := "java/util/NoSuchElementException") [] ⟨0, 5, 6, 37⟩ [] (by rw [htab]; rfl) (fun z hz => absurd hz List.not_mem_nil) (by decide) (by decide) (S.2.2.2.2 _ tw_408) (hG.cast (i := 415) (by decide +kernel)) hc9 hv9 hcl9 ?_
    refine W.cs (cells' := 1) (slots' := 6) rfl rfl ?_
    refine lv_astore_n (lv' := [(2, .ref q9), (0, va_rf r0), (1, .int x1)]) S.1 S.2.1 dL_waitingMessage_6 rfl hl (by decide) rfl (fun ls hl => ?_)
    refine lv_bipush (v := (-75)) S.1 S.2.1 dL_waitingMessage_7 (by decide) ?_
    exact mz_iret S hr hlk hM hS rfl (Nat.le_of_ble_eq_true rfl) (Nat.le_of_ble_eq_true rfl) dL_waitingMessage_9 ⟨_, rfl, rfl, h⟩
  · obtain ⟨u4, rfl, e9, h⟩ := hp
    rw [e9] at hM
    refine W.cs (cells' := 1) (slots' := 6) rfl rfl ?_
    exact mz_iret S hr hlk hM hS rfl (Nat.le_of_ble_eq_true rfl) (Nat.le_of_ble_eq_true rfl) dL_waitingMessage_5 ⟨_, rfl, rfl, h⟩
set_option maxRecDepth 100000 in
set_option maxHeartbeats 4000000 in
theorem c_L_wouldBeLost {l : Launch} {G : mgT} {μ : mmT} {r0 : Option Nat} {x1 : Int32} {Q : Int32 → Prop} (hl0 : l.stackTraces = false) (h : w_L_wouldBeLost G μ r0 x1 Q) : MH G l yL_wouldBeLost cL_wouldBeLost 3 (some .int) [(0, 13, 14, 37), (0, 13, 18, 22)] { frames := 8, cells := 2, slots := 12, locals := 144 } [va_rf r0, .int x1] μ (pI (fun r μ' => μ' = μ ∧ Q r)) := by
  refine mz_MH (by decide +kernel) (by simp [lg_sl, mz_cat, mz_cr, mz_ci, mz_cl, mz_cf, mz_cd, mz_cn]) (fun p e s m args below meth c S hG hr hlk hnm htab => ?_)
  have hB13 : ∀ (s0 : Int32) (H : Heap) (locs : List Loc) (ls : Array Slot), Mm G μ H → va_S (Ah G) s.heap H locs → lv_has ls 3 [] → w_L_wouldBeLost_b13 G μ Q  s0 → W p l e { frames := 8, cells := 2, slots := 12, locals := 144 } s m args below meth c H locs (2) (12) (MQ below (mQ G (pI (fun r μ' => μ' = μ ∧ Q r))) args s 2 12 (Ah G)) (F0 m 13 ls [.int s0]) := by
    intro  s0 H locs ls hM hS hl h
    unfold w_L_wouldBeLost_b13 at h
    exact mz_iret S hr hlk hM hS rfl (Nat.le_of_ble_eq_true rfl) (Nat.le_of_ble_eq_true rfl) dL_wouldBeLost_13 ⟨_, rfl, rfl, h⟩
  intro H locs ls hM hS hl
  have hl : lv_has ls 3 [(0, va_rf r0), (1, .int x1)] := by simpa [lv_args, mz_cat, mz_cr, mz_ci, mz_cl, mz_cf, mz_cd, mz_cn] using hl
  unfold w_L_wouldBeLost at h
  refine mz_aload_n (x := r0) S.1 S.2.1 dL_wouldBeLost_0 rfl (lv_at hl 0 rfl) ?_
  refine lv_iload_n S.1 S.2.1 dL_wouldBeLost_1 rfl (lv_at hl 1 rfl) ?_
  obtain ⟨a1, e2, h⟩ := h
  refine mz_o1 e2 ?_
  obtain ⟨k3, h⟩ := h
  refine mz_VX S hG hM hS cf_9 k3 (As := [.int x1]) (rest := []) (c_X10_wouldBeLost hl0 h) yf_X10_wouldBeLost tw_1241 tw_1242 tw_1243 ⟨Nat.le_of_ble_eq_true rfl, Nat.le_of_ble_eq_true rfl⟩ ⟨(Nat.le_of_ble_eq_true rfl), (Nat.le_of_ble_eq_true rfl)⟩ rfl hl.1 rfl (Nat.le_of_ble_eq_true rfl) dL_wouldBeLost_2 (fun E ce q9 μ9 H locs hp hM hS hc9 hv9 hcl9 => ?_) (fun v9 μ9 H locs hp hM hS => ?_)
  · obtain ⟨e9, h⟩ := hp
    rw [e9] at hM
    rcases h with ⟨rfl, h⟩ | h
    · refine vx_catch S.2.2.2.1 (name := "java/util/NoSuchElementException") [] ⟨0, 13, 14, 37⟩ [⟨0, 13, 18, 22⟩] (by rw [htab]; rfl) (fun z hz => absurd hz List.not_mem_nil) (by decide) (by decide) (S.2.2.2.2 _ tw_408) (hG.cast (i := 415) (by decide +kernel)) hc9 hv9 hcl9 ?_
      refine W.cs (cells' := 2) (slots' := 12) rfl rfl ?_
      refine lv_astore_n (lv' := [(2, .ref q9), (0, va_rf r0), (1, .int x1)]) S.1 S.2.1 dL_wouldBeLost_14 rfl hl (by decide) rfl (fun ls hl => ?_)
      refine lv_bipush (v := (-75)) S.1 S.2.1 dL_wouldBeLost_15 (by decide) ?_
      exact mz_iret S hr hlk hM hS rfl (Nat.le_of_ble_eq_true rfl) (Nat.le_of_ble_eq_true rfl) dL_wouldBeLost_17 ⟨_, rfl, rfl, h⟩
    obtain ⟨rfl, h⟩ := h
    refine vx_catch S.2.2.2.1 (name := "java/lang/IllegalStateException") [⟨0, 13, 14, 37⟩] ⟨0, 13, 18, 22⟩ [] (by rw [htab]; rfl) (fun z hz => (List.mem_cons.mp hz).elim (fun e9 => by subst e9; exact Or.inr ⟨by decide, "java/util/NoSuchElementException", S.2.2.2.2 _ tw_408, hG.nc (by decide)⟩) (fun hz => absurd hz List.not_mem_nil)) (by decide) (by decide) (S.2.2.2.2 _ tw_506) (hG.cast (i := 513) (by decide +kernel)) hc9 hv9 hcl9 ?_
    refine W.cs (cells' := 2) (slots' := 12) rfl rfl ?_
    refine lv_astore_n (lv' := [(2, .ref q9), (0, va_rf r0), (1, .int x1)]) S.1 S.2.1 dL_wouldBeLost_18 rfl hl (by decide) rfl (fun ls hl => ?_)
    refine lv_bipush (v := (-79)) S.1 S.2.1 dL_wouldBeLost_19 (by decide) ?_
    exact mz_iret S hr hlk hM hS rfl (Nat.le_of_ble_eq_true rfl) (Nat.le_of_ble_eq_true rfl) dL_wouldBeLost_21 ⟨_, rfl, rfl, h⟩
  · obtain ⟨u4, rfl, e9, h⟩ := hp
    rw [e9] at hM
    refine W.cs (cells' := 2) (slots' := 12) rfl rfl ?_
    refine lv_if_eq (tgt := 12) S.1 S.2.1 dL_wouldBeLost_5 (by decide) (fun c5 => ?_) (fun c5 => ?_)
    · have h := h.1 c5
      refine lv_iconst (v := (nI 0)) S.1 S.2.1 dL_wouldBeLost_12 (by decide) ?_
      refine W.widen (k := 2) (n := 12) (by omega) (by omega) ?_
      exact hB13  (nI 0) H locs ls hM hS (lv_sub hl [] rfl) h
    · have h := h.2 c5
      refine lv_iconst (v := (nI 1)) S.1 S.2.1 dL_wouldBeLost_8 (by decide) ?_
      refine lv_goto (tgt := 13) S.1 S.2.1 dL_wouldBeLost_9 (by decide) ?_
      refine W.widen (k := 2) (n := 12) (by omega) (by omega) ?_
      exact hB13  (nI 1) H locs ls hM hS (lv_sub hl [] rfl) h
set_option maxRecDepth 100000 in
set_option maxHeartbeats 4000000 in
theorem c_L_napLength {l : Launch} {G : mgT} {μ : mmT} {r0 : Option Nat} {x1 : Int32} {Q : Int64 → Prop} (hl0 : l.stackTraces = false) (h : w_L_napLength G μ r0 x1 Q) : MH G l yL_napLength cL_napLength 3 (some .long) [(0, 5, 6, 20)] { frames := 7, cells := 1, slots := 6, locals := 121 } [va_rf r0, .int x1] μ (pL (fun r μ' => μ' = μ ∧ Q r)) := by
  refine mz_MH (by decide +kernel) (by simp [lg_sl, mz_cat, mz_cr, mz_ci, mz_cl, mz_cf, mz_cd, mz_cn]) (fun p e s m args below meth c S hG hr hlk hnm htab => ?_)
  intro H locs ls hM hS hl
  have hl : lv_has ls 3 [(0, va_rf r0), (1, .int x1)] := by simpa [lv_args, mz_cat, mz_cr, mz_ci, mz_cl, mz_cf, mz_cd, mz_cn] using hl
  unfold w_L_napLength at h
  refine mz_aload_n (x := r0) S.1 S.2.1 dL_napLength_0 rfl (lv_at hl 0 rfl) ?_
  refine lv_iload_n S.1 S.2.1 dL_napLength_1 rfl (lv_at hl 1 rfl) ?_
  obtain ⟨a1, e2, h⟩ := h
  refine mz_o1 e2 ?_
  obtain ⟨k3, h⟩ := h
  refine mz_VX S hG hM hS cf_9 k3 (As := [.int x1]) (rest := []) (c_X10_napLength hl0 h) yf_X10_napLength tw_1231 tw_1232 tw_1233 ⟨Nat.le_of_ble_eq_true rfl, Nat.le_of_ble_eq_true rfl⟩ ⟨(Nat.le_of_ble_eq_true rfl), (Nat.le_of_ble_eq_true rfl)⟩ rfl hl.1 rfl (Nat.le_of_ble_eq_true rfl) dL_napLength_2 (fun E ce q9 μ9 H locs hp hM hS hc9 hv9 hcl9 => ?_) (fun v9 μ9 H locs hp hM hS => ?_)
  · obtain ⟨e9, h⟩ := hp
    rw [e9] at hM
    obtain ⟨rfl, h⟩ := h
    refine vx_catch S.2.2.2.1 (name := "java/lang/IllegalArgumentException") [] ⟨0, 5, 6, 20⟩ [] (by rw [htab]; rfl) (fun z hz => absurd hz List.not_mem_nil) (by decide) (by decide) (S.2.2.2.2 _ tw_634) (hG.cast (i := 653) (by decide +kernel)) hc9 hv9 hcl9 ?_
    refine W.cs (cells' := 1) (slots' := 6) rfl rfl ?_
    refine lv_astore_n (lv' := [(2, .ref q9), (0, va_rf r0), (1, .int x1)]) S.1 S.2.1 dL_napLength_6 rfl hl (by decide) rfl (fun ls hl => ?_)
    refine lv_ldc2 (v := (-78)) S.1 S.2.1 S.2.2.2.1 (S.2.2.2.2 _ tw_1237) dL_napLength_7 ?_
    exact mz_lret S hr hlk hM hS (Nat.le_of_ble_eq_true rfl) (Nat.le_of_ble_eq_true rfl) dL_napLength_10 ⟨_, rfl, rfl, h⟩
  · obtain ⟨u4, rfl, e9, h⟩ := hp
    rw [e9] at hM
    refine W.cs (cells' := 1) (slots' := 6) rfl rfl ?_
    exact mz_lret S hr hlk hM hS (Nat.le_of_ble_eq_true rfl) (Nat.le_of_ble_eq_true rfl) dL_napLength_5 ⟨_, rfl, rfl, h⟩
set_option maxRecDepth 100000 in
set_option maxHeartbeats 4000000 in
theorem c_L_napLengthByDoubling {l : Launch} {G : mgT} {μ : mmT} {r0 : Option Nat} {x1 : Int32} {Q : Int64 → Prop} (hl0 : l.stackTraces = false) (h : w_L_napLengthByDoubling G μ r0 x1 Q) : MH G l yL_napLengthByDoubling cL_napLengthByDoubling 3 (some .long) [(0, 5, 6, 20)] { frames := 7, cells := 1, slots := 6, locals := 121 } [va_rf r0, .int x1] μ (pL (fun r μ' => μ' = μ ∧ Q r)) := by
  refine mz_MH (by decide +kernel) (by simp [lg_sl, mz_cat, mz_cr, mz_ci, mz_cl, mz_cf, mz_cd, mz_cn]) (fun p e s m args below meth c S hG hr hlk hnm htab => ?_)
  intro H locs ls hM hS hl
  have hl : lv_has ls 3 [(0, va_rf r0), (1, .int x1)] := by simpa [lv_args, mz_cat, mz_cr, mz_ci, mz_cl, mz_cf, mz_cd, mz_cn] using hl
  unfold w_L_napLengthByDoubling at h
  refine mz_aload_n (x := r0) S.1 S.2.1 dL_napLengthByDoubling_0 rfl (lv_at hl 0 rfl) ?_
  refine lv_iload_n S.1 S.2.1 dL_napLengthByDoubling_1 rfl (lv_at hl 1 rfl) ?_
  obtain ⟨a1, e2, h⟩ := h
  refine mz_o1 e2 ?_
  obtain ⟨k3, h⟩ := h
  refine mz_VX S hG hM hS cf_9 k3 (As := [.int x1]) (rest := []) (c_X10_napLengthByDoubling hl0 h) yf_X10_napLengthByDoubling tw_1280 tw_1281 tw_1282 ⟨Nat.le_of_ble_eq_true rfl, Nat.le_of_ble_eq_true rfl⟩ ⟨(Nat.le_of_ble_eq_true rfl), (Nat.le_of_ble_eq_true rfl)⟩ rfl hl.1 rfl (Nat.le_of_ble_eq_true rfl) dL_napLengthByDoubling_2 (fun E ce q9 μ9 H locs hp hM hS hc9 hv9 hcl9 => ?_) (fun v9 μ9 H locs hp hM hS => ?_)
  · obtain ⟨e9, h⟩ := hp
    rw [e9] at hM
    obtain ⟨rfl, h⟩ := h
    refine vx_catch S.2.2.2.1 (name := "java/lang/IllegalArgumentException") [] ⟨0, 5, 6, 20⟩ [] (by rw [htab]; rfl) (fun z hz => absurd hz List.not_mem_nil) (by decide) (by decide) (S.2.2.2.2 _ tw_634) (hG.cast (i := 653) (by decide +kernel)) hc9 hv9 hcl9 ?_
    refine W.cs (cells' := 1) (slots' := 6) rfl rfl ?_
    refine lv_astore_n (lv' := [(2, .ref q9), (0, va_rf r0), (1, .int x1)]) S.1 S.2.1 dL_napLengthByDoubling_6 rfl hl (by decide) rfl (fun ls hl => ?_)
    refine lv_ldc2 (v := (-78)) S.1 S.2.1 S.2.2.2.1 (S.2.2.2.2 _ tw_1237) dL_napLengthByDoubling_7 ?_
    exact mz_lret S hr hlk hM hS (Nat.le_of_ble_eq_true rfl) (Nat.le_of_ble_eq_true rfl) dL_napLengthByDoubling_10 ⟨_, rfl, rfl, h⟩
  · obtain ⟨u4, rfl, e9, h⟩ := hp
    rw [e9] at hM
    refine W.cs (cells' := 1) (slots' := 6) rfl rfl ?_
    exact mz_lret S hr hlk hM hS (Nat.le_of_ble_eq_true rfl) (Nat.le_of_ble_eq_true rfl) dL_napLengthByDoubling_5 ⟨_, rfl, rfl, h⟩
set_option maxRecDepth 100000 in
set_option maxHeartbeats 4000000 in
theorem c_L_minutesUntilDelivered {l : Launch} {G : mgT} {μ : mmT} {r0 : Option Nat} {x1 : Int32} {Q : Int32 → mmT → Prop} (hl0 : l.stackTraces = false) (h : w_L_minutesUntilDelivered G μ r0 x1 Q) : MH G l yL_minutesUntilDelivered cL_minutesUntilDelivered 3 (some .int) [(0, 5, 6, 37), (0, 5, 10, 22)] { frames := 8, cells := 2, slots := 12, locals := 217 } [va_rf r0, .int x1] μ (pI Q) := by
  refine mz_MH (by decide +kernel) (by simp [lg_sl, mz_cat, mz_cr, mz_ci, mz_cl, mz_cf, mz_cd, mz_cn]) (fun p e s m args below meth c S hG hr hlk hnm htab => ?_)
  intro H locs ls hM hS hl
  have hl : lv_has ls 3 [(0, va_rf r0), (1, .int x1)] := by simpa [lv_args, mz_cat, mz_cr, mz_ci, mz_cl, mz_cf, mz_cd, mz_cn] using hl
  unfold w_L_minutesUntilDelivered at h
  refine mz_aload_n (x := r0) S.1 S.2.1 dL_minutesUntilDelivered_0 rfl (lv_at hl 0 rfl) ?_
  refine lv_iload_n S.1 S.2.1 dL_minutesUntilDelivered_1 rfl (lv_at hl 1 rfl) ?_
  obtain ⟨a1, e2, h⟩ := h
  refine mz_o1 e2 ?_
  obtain ⟨k3, h⟩ := h
  refine mz_VX S hG hM hS cf_9 k3 (As := [.int x1]) (rest := []) (c_X10_minutesUntilDelivered hl0 h) yf_X10_minutesUntilDelivered tw_530 tw_531 tw_532 ⟨Nat.le_of_ble_eq_true rfl, Nat.le_of_ble_eq_true rfl⟩ ⟨(Nat.le_of_ble_eq_true rfl), (Nat.le_of_ble_eq_true rfl)⟩ rfl hl.1 rfl (Nat.le_of_ble_eq_true rfl) dL_minutesUntilDelivered_2 (fun E ce q9 μ9 H locs hp hM hS hc9 hv9 hcl9 => ?_) (fun v9 μ5 H locs hp hM hS => ?_)
  · have h := hp
    rcases h with ⟨rfl, h⟩ | h
    · refine vx_catch S.2.2.2.1 (name := "java/util/NoSuchElementException") [] ⟨0, 5, 6, 37⟩ [⟨0, 5, 10, 22⟩] (by rw [htab]; rfl) (fun z hz => absurd hz List.not_mem_nil) (by decide) (by decide) (S.2.2.2.2 _ tw_408) (hG.cast (i := 415) (by decide +kernel)) hc9 hv9 hcl9 ?_
      refine W.cs (cells' := 2) (slots' := 12) rfl rfl ?_
      refine lv_astore_n (lv' := [(2, .ref q9), (0, va_rf r0), (1, .int x1)]) S.1 S.2.1 dL_minutesUntilDelivered_6 rfl hl (by decide) rfl (fun ls hl => ?_)
      refine lv_bipush (v := (-75)) S.1 S.2.1 dL_minutesUntilDelivered_7 (by decide) ?_
      exact mz_iret S hr hlk hM hS rfl (Nat.le_of_ble_eq_true rfl) (Nat.le_of_ble_eq_true rfl) dL_minutesUntilDelivered_9 ⟨_, rfl, h⟩
    obtain ⟨rfl, h⟩ := h
    refine vx_catch S.2.2.2.1 (name := "java/lang/IllegalStateException") [⟨0, 5, 6, 37⟩] ⟨0, 5, 10, 22⟩ [] (by rw [htab]; rfl) (fun z hz => (List.mem_cons.mp hz).elim (fun e9 => by subst e9; exact Or.inr ⟨by decide, "java/util/NoSuchElementException", S.2.2.2.2 _ tw_408, hG.nc (by decide)⟩) (fun hz => absurd hz List.not_mem_nil)) (by decide) (by decide) (S.2.2.2.2 _ tw_506) (hG.cast (i := 513) (by decide +kernel)) hc9 hv9 hcl9 ?_
    refine W.cs (cells' := 2) (slots' := 12) rfl rfl ?_
    refine lv_astore_n (lv' := [(2, .ref q9), (0, va_rf r0), (1, .int x1)]) S.1 S.2.1 dL_minutesUntilDelivered_10 rfl hl (by decide) rfl (fun ls hl => ?_)
    refine lv_bipush (v := (-79)) S.1 S.2.1 dL_minutesUntilDelivered_11 (by decide) ?_
    exact mz_iret S hr hlk hM hS rfl (Nat.le_of_ble_eq_true rfl) (Nat.le_of_ble_eq_true rfl) dL_minutesUntilDelivered_13 ⟨_, rfl, h⟩
  · obtain ⟨u4, rfl, h⟩ := hp
    refine W.cs (cells' := 2) (slots' := 12) rfl rfl ?_
    exact mz_iret S hr hlk hM hS rfl (Nat.le_of_ble_eq_true rfl) (Nat.le_of_ble_eq_true rfl) dL_minutesUntilDelivered_5 ⟨_, rfl, h⟩
set_option maxRecDepth 100000 in
set_option maxHeartbeats 4000000 in
theorem c_L_meanAttempts {l : Launch} {G : mgT} {μ : mmT} {r0 : Option Nat} {Q : UInt64 → Prop} (hl0 : l.stackTraces = false) (h : w_L_meanAttempts G μ r0 Q) : MH G l yL_meanAttempts cL_meanAttempts 2 (some .double) [(0, 4, 5, 124)] { frames := 7, cells := 1, slots := 6, locals := 120 } [va_rf r0] μ (pD (fun r μ' => μ' = μ ∧ Q r)) := by
  refine mz_MH (by decide +kernel) (by simp [lg_sl, mz_cat, mz_cr, mz_ci, mz_cl, mz_cf, mz_cd, mz_cn]) (fun p e s m args below meth c S hG hr hlk hnm htab => ?_)
  intro H locs ls hM hS hl
  have hl : lv_has ls 2 [(0, va_rf r0)] := by simpa [lv_args, mz_cat, mz_cr, mz_ci, mz_cl, mz_cf, mz_cd, mz_cn] using hl
  unfold w_L_meanAttempts at h
  refine mz_aload_n (x := r0) S.1 S.2.1 dL_meanAttempts_0 rfl (lv_at hl 0 rfl) ?_
  obtain ⟨a1, e2, h⟩ := h
  refine mz_o0 e2 ?_
  obtain ⟨k3, h⟩ := h
  refine mz_VX S hG hM hS cf_9 k3 (As := []) (rest := []) (c_X10_meanAttempts hl0 h) yf_X10_meanAttempts tw_1305 tw_1306 tw_1307 ⟨Nat.le_of_ble_eq_true rfl, Nat.le_of_ble_eq_true rfl⟩ ⟨(Nat.le_of_ble_eq_true rfl), (Nat.le_of_ble_eq_true rfl)⟩ rfl hl.1 rfl (Nat.le_of_ble_eq_true rfl) dL_meanAttempts_1 (fun E ce q9 μ9 H locs hp hM hS hc9 hv9 hcl9 => ?_) (fun v9 μ9 H locs hp hM hS => ?_)
  · obtain ⟨e9, h⟩ := hp
    rw [e9] at hM
    obtain ⟨rfl, h⟩ := h
    refine vx_catch S.2.2.2.1 (name := "java/lang/ArithmeticException") [] ⟨0, 4, 5, 124⟩ [] (by rw [htab]; rfl) (fun z hz => absurd hz List.not_mem_nil) (by decide) (by decide) (S.2.2.2.2 _ tw_1291) (hG.cast (i := 1303) (by decide +kernel)) hc9 hv9 hcl9 ?_
    refine W.cs (cells' := 1) (slots' := 6) rfl rfl ?_
    refine lv_astore_n (i := 1) (lv' := [(1, .ref q9), (0, va_rf r0)]) S.1 S.2.1 dL_meanAttempts_5 rfl hl (by decide) (by simp [List.filter, mz_cat]) (fun ls hl => ?_)
    refine lv_ldc2d (v := 13858279740860792832) S.1 S.2.1 S.2.2.2.1 (S.2.2.2.2 _ tw_1320) dL_meanAttempts_6 ?_
    exact mz_dret S hr hlk hM hS (Nat.le_of_ble_eq_true rfl) (Nat.le_of_ble_eq_true rfl) dL_meanAttempts_9 ⟨_, rfl, rfl, h⟩
  · obtain ⟨u4, rfl, e9, h⟩ := hp
    rw [e9] at hM
    refine W.cs (cells' := 1) (slots' := 6) rfl rfl ?_
    exact mz_dret S hr hlk hM hS (Nat.le_of_ble_eq_true rfl) (Nat.le_of_ble_eq_true rfl) dL_meanAttempts_4 ⟨_, rfl, rfl, h⟩
set_option maxRecDepth 100000 in
set_option maxHeartbeats 4000000 in
theorem c_L_meanAttemptsBits {l : Launch} {G : mgT} {μ : mmT} {r0 : Option Nat} {Q : Int64 → Prop} (hl0 : l.stackTraces = false) (h : w_L_meanAttemptsBits G μ r0 Q) : MH G l yL_meanAttemptsBits cL_meanAttemptsBits 2 (some .long) [(0, 4, 5, 124)] { frames := 7, cells := 1, slots := 6, locals := 120 } [va_rf r0] μ (pL (fun r μ' => μ' = μ ∧ Q r)) := by
  refine mz_MH (by decide +kernel) (by simp [lg_sl, mz_cat, mz_cr, mz_ci, mz_cl, mz_cf, mz_cd, mz_cn]) (fun p e s m args below meth c S hG hr hlk hnm htab => ?_)
  intro H locs ls hM hS hl
  have hl : lv_has ls 2 [(0, va_rf r0)] := by simpa [lv_args, mz_cat, mz_cr, mz_ci, mz_cl, mz_cf, mz_cd, mz_cn] using hl
  unfold w_L_meanAttemptsBits at h
  refine mz_aload_n (x := r0) S.1 S.2.1 dL_meanAttemptsBits_0 rfl (lv_at hl 0 rfl) ?_
  obtain ⟨a1, e2, h⟩ := h
  refine mz_o0 e2 ?_
  obtain ⟨k3, h⟩ := h
  refine mz_VX S hG hM hS cf_9 k3 (As := []) (rest := []) (c_X10_meanAttemptsBits hl0 h) yf_X10_meanAttemptsBits tw_1324 tw_1325 tw_1326 ⟨Nat.le_of_ble_eq_true rfl, Nat.le_of_ble_eq_true rfl⟩ ⟨(Nat.le_of_ble_eq_true rfl), (Nat.le_of_ble_eq_true rfl)⟩ rfl hl.1 rfl (Nat.le_of_ble_eq_true rfl) dL_meanAttemptsBits_1 (fun E ce q9 μ9 H locs hp hM hS hc9 hv9 hcl9 => ?_) (fun v9 μ9 H locs hp hM hS => ?_)
  · obtain ⟨e9, h⟩ := hp
    rw [e9] at hM
    obtain ⟨rfl, h⟩ := h
    refine vx_catch S.2.2.2.1 (name := "java/lang/ArithmeticException") [] ⟨0, 4, 5, 124⟩ [] (by rw [htab]; rfl) (fun z hz => absurd hz List.not_mem_nil) (by decide) (by decide) (S.2.2.2.2 _ tw_1291) (hG.cast (i := 1303) (by decide +kernel)) hc9 hv9 hcl9 ?_
    refine W.cs (cells' := 1) (slots' := 6) rfl rfl ?_
    refine lv_astore_n (i := 1) (lv' := [(1, .ref q9), (0, va_rf r0)]) S.1 S.2.1 dL_meanAttemptsBits_5 rfl hl (by decide) (by simp [List.filter, mz_cat]) (fun ls hl => ?_)
    refine lv_ldc2 (v := (-74)) S.1 S.2.1 S.2.2.2.1 (S.2.2.2.2 _ tw_1332) dL_meanAttemptsBits_6 ?_
    exact mz_lret S hr hlk hM hS (Nat.le_of_ble_eq_true rfl) (Nat.le_of_ble_eq_true rfl) dL_meanAttemptsBits_9 ⟨_, rfl, rfl, h⟩
  · obtain ⟨u4, rfl, e9, h⟩ := hp
    rw [e9] at hM
    refine W.cs (cells' := 1) (slots' := 6) rfl rfl ?_
    exact mz_lret S hr hlk hM hS (Nat.le_of_ble_eq_true rfl) (Nat.le_of_ble_eq_true rfl) dL_meanAttemptsBits_4 ⟨_, rfl, rfl, h⟩
set_option maxRecDepth 100000 in
set_option maxHeartbeats 4000000 in
theorem c_L_deliveryRate {l : Launch} {G : mgT} {μ : mmT} {r0 : Option Nat} {Q : UInt32 → Prop} (hl0 : l.stackTraces = false) (h : w_L_deliveryRate G μ r0 Q) : MH G l yL_deliveryRate cL_deliveryRate 2 (some .float) [(0, 4, 5, 124)] { frames := 7, cells := 1, slots := 6, locals := 120 } [va_rf r0] μ (pF (fun r μ' => μ' = μ ∧ Q r)) := by
  refine mz_MH (by decide +kernel) (by simp [lg_sl, mz_cat, mz_cr, mz_ci, mz_cl, mz_cf, mz_cd, mz_cn]) (fun p e s m args below meth c S hG hr hlk hnm htab => ?_)
  intro H locs ls hM hS hl
  have hl : lv_has ls 2 [(0, va_rf r0)] := by simpa [lv_args, mz_cat, mz_cr, mz_ci, mz_cl, mz_cf, mz_cd, mz_cn] using hl
  unfold w_L_deliveryRate at h
  refine mz_aload_n (x := r0) S.1 S.2.1 dL_deliveryRate_0 rfl (lv_at hl 0 rfl) ?_
  obtain ⟨a1, e2, h⟩ := h
  refine mz_o0 e2 ?_
  obtain ⟨k3, h⟩ := h
  refine mz_VX S hG hM hS cf_9 k3 (As := []) (rest := []) (c_X10_deliveryRate hl0 h) yf_X10_deliveryRate tw_1346 tw_1347 tw_1348 ⟨Nat.le_of_ble_eq_true rfl, Nat.le_of_ble_eq_true rfl⟩ ⟨(Nat.le_of_ble_eq_true rfl), (Nat.le_of_ble_eq_true rfl)⟩ rfl hl.1 rfl (Nat.le_of_ble_eq_true rfl) dL_deliveryRate_1 (fun E ce q9 μ9 H locs hp hM hS hc9 hv9 hcl9 => ?_) (fun v9 μ9 H locs hp hM hS => ?_)
  · obtain ⟨e9, h⟩ := hp
    rw [e9] at hM
    obtain ⟨rfl, h⟩ := h
    refine vx_catch S.2.2.2.1 (name := "java/lang/ArithmeticException") [] ⟨0, 4, 5, 124⟩ [] (by rw [htab]; rfl) (fun z hz => absurd hz List.not_mem_nil) (by decide) (by decide) (S.2.2.2.2 _ tw_1291) (hG.cast (i := 1303) (by decide +kernel)) hc9 hv9 hcl9 ?_
    refine W.cs (cells' := 1) (slots' := 6) rfl rfl ?_
    refine lv_astore_n (i := 1) (lv' := [(1, .ref q9), (0, va_rf r0)]) S.1 S.2.1 dL_deliveryRate_5 rfl hl (by decide) (by simp [List.filter, mz_cat]) (fun ls hl => ?_)
    refine lv_ldcf (v := 3264479232) S.1 S.2.1 S.2.2.2.1 (S.2.2.2.2 _ tw_1355) dL_deliveryRate_6 ?_
    exact mz_fret S hr hlk hM hS (Nat.le_of_ble_eq_true rfl) (Nat.le_of_ble_eq_true rfl) dL_deliveryRate_8 ⟨_, rfl, rfl, h⟩
  · obtain ⟨u4, rfl, e9, h⟩ := hp
    rw [e9] at hM
    refine W.cs (cells' := 1) (slots' := 6) rfl rfl ?_
    exact mz_fret S hr hlk hM hS (Nat.le_of_ble_eq_true rfl) (Nat.le_of_ble_eq_true rfl) dL_deliveryRate_4 ⟨_, rfl, rfl, h⟩
set_option maxRecDepth 100000 in
set_option maxHeartbeats 4000000 in
theorem c_L_deliveryRateBits {l : Launch} {G : mgT} {μ : mmT} {r0 : Option Nat} {Q : Int32 → Prop} (hl0 : l.stackTraces = false) (h : w_L_deliveryRateBits G μ r0 Q) : MH G l yL_deliveryRateBits cL_deliveryRateBits 2 (some .int) [(0, 4, 5, 124)] { frames := 7, cells := 1, slots := 6, locals := 120 } [va_rf r0] μ (pI (fun r μ' => μ' = μ ∧ Q r)) := by
  refine mz_MH (by decide +kernel) (by simp [lg_sl, mz_cat, mz_cr, mz_ci, mz_cl, mz_cf, mz_cd, mz_cn]) (fun p e s m args below meth c S hG hr hlk hnm htab => ?_)
  intro H locs ls hM hS hl
  have hl : lv_has ls 2 [(0, va_rf r0)] := by simpa [lv_args, mz_cat, mz_cr, mz_ci, mz_cl, mz_cf, mz_cd, mz_cn] using hl
  unfold w_L_deliveryRateBits at h
  refine mz_aload_n (x := r0) S.1 S.2.1 dL_deliveryRateBits_0 rfl (lv_at hl 0 rfl) ?_
  obtain ⟨a1, e2, h⟩ := h
  refine mz_o0 e2 ?_
  obtain ⟨k3, h⟩ := h
  refine mz_VX S hG hM hS cf_9 k3 (As := []) (rest := []) (c_X10_deliveryRateBits hl0 h) yf_X10_deliveryRateBits tw_1359 tw_1360 tw_1361 ⟨Nat.le_of_ble_eq_true rfl, Nat.le_of_ble_eq_true rfl⟩ ⟨(Nat.le_of_ble_eq_true rfl), (Nat.le_of_ble_eq_true rfl)⟩ rfl hl.1 rfl (Nat.le_of_ble_eq_true rfl) dL_deliveryRateBits_1 (fun E ce q9 μ9 H locs hp hM hS hc9 hv9 hcl9 => ?_) (fun v9 μ9 H locs hp hM hS => ?_)
  · obtain ⟨e9, h⟩ := hp
    rw [e9] at hM
    obtain ⟨rfl, h⟩ := h
    refine vx_catch S.2.2.2.1 (name := "java/lang/ArithmeticException") [] ⟨0, 4, 5, 124⟩ [] (by rw [htab]; rfl) (fun z hz => absurd hz List.not_mem_nil) (by decide) (by decide) (S.2.2.2.2 _ tw_1291) (hG.cast (i := 1303) (by decide +kernel)) hc9 hv9 hcl9 ?_
    refine W.cs (cells' := 1) (slots' := 6) rfl rfl ?_
    refine lv_astore_n (i := 1) (lv' := [(1, .ref q9), (0, va_rf r0)]) S.1 S.2.1 dL_deliveryRateBits_5 rfl hl (by decide) (by simp [List.filter, mz_cat]) (fun ls hl => ?_)
    refine lv_bipush (v := (-74)) S.1 S.2.1 dL_deliveryRateBits_6 (by decide) ?_
    exact mz_iret S hr hlk hM hS rfl (Nat.le_of_ble_eq_true rfl) (Nat.le_of_ble_eq_true rfl) dL_deliveryRateBits_8 ⟨_, rfl, rfl, h⟩
  · obtain ⟨u4, rfl, e9, h⟩ := hp
    rw [e9] at hM
    refine W.cs (cells' := 1) (slots' := 6) rfl rfl ?_
    exact mz_iret S hr hlk hM hS rfl (Nat.le_of_ble_eq_true rfl) (Nat.le_of_ble_eq_true rfl) dL_deliveryRateBits_4 ⟨_, rfl, rfl, h⟩
set_option maxRecDepth 100000 in
set_option maxHeartbeats 4000000 in
theorem c_L_type {l : Launch} {G : mgT} {μ : mmT} {r0 : Option Nat} {x1 : Int32} {Q : Int32 → mmT → Prop} (hl0 : l.stackTraces = false) (h : w_L_type G μ r0 x1 Q) : MH G l yL_type cL_type 3 (some .int) [(0, 5, 6, 20), (0, 5, 10, 22)] { frames := 7, cells := 1, slots := 6, locals := 121 } [va_rf r0, .int x1] μ (pI Q) := by
  refine mz_MH (by decide +kernel) (by simp [lg_sl, mz_cat, mz_cr, mz_ci, mz_cl, mz_cf, mz_cd, mz_cn]) (fun p e s m args below meth c S hG hr hlk hnm htab => ?_)
  intro H locs ls hM hS hl
  have hl : lv_has ls 3 [(0, va_rf r0), (1, .int x1)] := by simpa [lv_args, mz_cat, mz_cr, mz_ci, mz_cl, mz_cf, mz_cd, mz_cn] using hl
  unfold w_L_type at h
  refine mz_aload_n (x := r0) S.1 S.2.1 dL_type_0 rfl (lv_at hl 0 rfl) ?_
  refine lv_iload_n S.1 S.2.1 dL_type_1 rfl (lv_at hl 1 rfl) ?_
  obtain ⟨a1, e2, h⟩ := h
  refine mz_o1 e2 ?_
  obtain ⟨k3, h⟩ := h
  refine mz_VX S hG hM hS cf_9 k3 (As := [.int x1]) (rest := []) (c_X10_type hl0 h) yf_X10_type tw_1036 tw_1037 tw_1038 ⟨Nat.le_of_ble_eq_true rfl, Nat.le_of_ble_eq_true rfl⟩ ⟨(Nat.le_of_ble_eq_true rfl), (Nat.le_of_ble_eq_true rfl)⟩ rfl hl.1 rfl (Nat.le_of_ble_eq_true rfl) dL_type_2 (fun E ce q9 μ9 H locs hp hM hS hc9 hv9 hcl9 => ?_) (fun v9 μ5 H locs hp hM hS => ?_)
  · have h := hp
    rcases h with ⟨rfl, h⟩ | h
    · refine vx_catch S.2.2.2.1 (name := "java/lang/IllegalArgumentException") [] ⟨0, 5, 6, 20⟩ [⟨0, 5, 10, 22⟩] (by rw [htab]; rfl) (fun z hz => absurd hz List.not_mem_nil) (by decide) (by decide) (S.2.2.2.2 _ tw_634) (hG.cast (i := 653) (by decide +kernel)) hc9 hv9 hcl9 ?_
      refine W.cs (cells' := 1) (slots' := 6) rfl rfl ?_
      refine lv_astore_n (lv' := [(2, .ref q9), (0, va_rf r0), (1, .int x1)]) S.1 S.2.1 dL_type_6 rfl hl (by decide) rfl (fun ls hl => ?_)
      refine lv_bipush (v := (-78)) S.1 S.2.1 dL_type_7 (by decide) ?_
      exact mz_iret S hr hlk hM hS rfl (Nat.le_of_ble_eq_true rfl) (Nat.le_of_ble_eq_true rfl) dL_type_9 ⟨_, rfl, h⟩
    obtain ⟨rfl, h⟩ := h
    refine vx_catch S.2.2.2.1 (name := "java/lang/IllegalStateException") [⟨0, 5, 6, 20⟩] ⟨0, 5, 10, 22⟩ [] (by rw [htab]; rfl) (fun z hz => (List.mem_cons.mp hz).elim (fun e9 => by subst e9; exact Or.inr ⟨by decide, "java/lang/IllegalArgumentException", S.2.2.2.2 _ tw_634, hG.nc (by decide)⟩) (fun hz => absurd hz List.not_mem_nil)) (by decide) (by decide) (S.2.2.2.2 _ tw_506) (hG.cast (i := 513) (by decide +kernel)) hc9 hv9 hcl9 ?_
    refine W.cs (cells' := 1) (slots' := 6) rfl rfl ?_
    refine lv_astore_n (lv' := [(2, .ref q9), (0, va_rf r0), (1, .int x1)]) S.1 S.2.1 dL_type_10 rfl hl (by decide) rfl (fun ls hl => ?_)
    refine lv_bipush (v := (-79)) S.1 S.2.1 dL_type_11 (by decide) ?_
    exact mz_iret S hr hlk hM hS rfl (Nat.le_of_ble_eq_true rfl) (Nat.le_of_ble_eq_true rfl) dL_type_13 ⟨_, rfl, h⟩
  · obtain ⟨u4, rfl, h⟩ := hp
    refine W.cs (cells' := 1) (slots' := 6) rfl rfl ?_
    exact mz_iret S hr hlk hM hS rfl (Nat.le_of_ble_eq_true rfl) (Nat.le_of_ble_eq_true rfl) dL_type_5 ⟨_, rfl, h⟩
set_option maxRecDepth 100000 in
set_option maxHeartbeats 4000000 in
theorem c_L_runScript {l : Launch} {G : mgT} {μ : mmT} {r0 : Option Nat} {Q : Int32 → mmT → Prop} (hl0 : l.stackTraces = false) (h : w_L_runScript G μ r0 Q) : MH G l yL_runScript cL_runScript 2 (some .int) [(0, 4, 5, 20), (0, 4, 9, 22)] { frames := 8, cells := 1, slots := 6, locals := 215 } [va_rf r0] μ (pI Q) := by
  refine mz_MH (by decide +kernel) (by simp [lg_sl, mz_cat, mz_cr, mz_ci, mz_cl, mz_cf, mz_cd, mz_cn]) (fun p e s m args below meth c S hG hr hlk hnm htab => ?_)
  intro H locs ls hM hS hl
  have hl : lv_has ls 2 [(0, va_rf r0)] := by simpa [lv_args, mz_cat, mz_cr, mz_ci, mz_cl, mz_cf, mz_cd, mz_cn] using hl
  unfold w_L_runScript at h
  refine mz_aload_n (x := r0) S.1 S.2.1 dL_runScript_0 rfl (lv_at hl 0 rfl) ?_
  obtain ⟨a1, e2, h⟩ := h
  refine mz_o0 e2 ?_
  obtain ⟨k3, h⟩ := h
  refine mz_VX S hG hM hS cf_9 k3 (As := []) (rest := []) (c_X10_runScript hl0 h) yf_X10_runScript tw_1049 tw_1050 tw_1051 ⟨Nat.le_of_ble_eq_true rfl, Nat.le_of_ble_eq_true rfl⟩ ⟨(Nat.le_of_ble_eq_true rfl), (Nat.le_of_ble_eq_true rfl)⟩ rfl hl.1 rfl (Nat.le_of_ble_eq_true rfl) dL_runScript_1 (fun E ce q9 μ9 H locs hp hM hS hc9 hv9 hcl9 => ?_) (fun v9 μ5 H locs hp hM hS => ?_)
  · have h := hp
    rcases h with ⟨rfl, h⟩ | h
    · refine vx_catch S.2.2.2.1 (name := "java/lang/IllegalArgumentException") [] ⟨0, 4, 5, 20⟩ [⟨0, 4, 9, 22⟩] (by rw [htab]; rfl) (fun z hz => absurd hz List.not_mem_nil) (by decide) (by decide) (S.2.2.2.2 _ tw_634) (hG.cast (i := 653) (by decide +kernel)) hc9 hv9 hcl9 ?_
      refine W.cs (cells' := 1) (slots' := 6) rfl rfl ?_
      refine lv_astore_n (i := 1) (lv' := [(1, .ref q9), (0, va_rf r0)]) S.1 S.2.1 dL_runScript_5 rfl hl (by decide) (by simp [List.filter, mz_cat]) (fun ls hl => ?_)
      refine lv_bipush (v := (-78)) S.1 S.2.1 dL_runScript_6 (by decide) ?_
      exact mz_iret S hr hlk hM hS rfl (Nat.le_of_ble_eq_true rfl) (Nat.le_of_ble_eq_true rfl) dL_runScript_8 ⟨_, rfl, h⟩
    obtain ⟨rfl, h⟩ := h
    refine vx_catch S.2.2.2.1 (name := "java/lang/IllegalStateException") [⟨0, 4, 5, 20⟩] ⟨0, 4, 9, 22⟩ [] (by rw [htab]; rfl) (fun z hz => (List.mem_cons.mp hz).elim (fun e9 => by subst e9; exact Or.inr ⟨by decide, "java/lang/IllegalArgumentException", S.2.2.2.2 _ tw_634, hG.nc (by decide)⟩) (fun hz => absurd hz List.not_mem_nil)) (by decide) (by decide) (S.2.2.2.2 _ tw_506) (hG.cast (i := 513) (by decide +kernel)) hc9 hv9 hcl9 ?_
    refine W.cs (cells' := 1) (slots' := 6) rfl rfl ?_
    refine lv_astore_n (i := 1) (lv' := [(1, .ref q9), (0, va_rf r0)]) S.1 S.2.1 dL_runScript_9 rfl hl (by decide) (by simp [List.filter, mz_cat]) (fun ls hl => ?_)
    refine lv_bipush (v := (-79)) S.1 S.2.1 dL_runScript_10 (by decide) ?_
    exact mz_iret S hr hlk hM hS rfl (Nat.le_of_ble_eq_true rfl) (Nat.le_of_ble_eq_true rfl) dL_runScript_12 ⟨_, rfl, h⟩
  · obtain ⟨u4, rfl, h⟩ := hp
    refine W.cs (cells' := 1) (slots' := 6) rfl rfl ?_
    exact mz_iret S hr hlk hM hS rfl (Nat.le_of_ble_eq_true rfl) (Nat.le_of_ble_eq_true rfl) dL_runScript_4 ⟨_, rfl, h⟩
set_option maxRecDepth 100000 in
set_option maxHeartbeats 4000000 in
theorem c_L_undo {l : Launch} {G : mgT} {μ : mmT} {r0 : Option Nat} {Q : Int32 → mmT → Prop} (hl0 : l.stackTraces = false) (h : w_L_undo G μ r0 Q) : MH G l yL_undo cL_undo 2 (some .int) [(0, 4, 5, 37)] { frames := 7, cells := 1, slots := 6, locals := 144 } [va_rf r0] μ (pI Q) := by
  refine mz_MH (by decide +kernel) (by simp [lg_sl, mz_cat, mz_cr, mz_ci, mz_cl, mz_cf, mz_cd, mz_cn]) (fun p e s m args below meth c S hG hr hlk hnm htab => ?_)
  intro H locs ls hM hS hl
  have hl : lv_has ls 2 [(0, va_rf r0)] := by simpa [lv_args, mz_cat, mz_cr, mz_ci, mz_cl, mz_cf, mz_cd, mz_cn] using hl
  unfold w_L_undo at h
  refine mz_aload_n (x := r0) S.1 S.2.1 dL_undo_0 rfl (lv_at hl 0 rfl) ?_
  obtain ⟨a1, e2, h⟩ := h
  refine mz_o0 e2 ?_
  obtain ⟨k3, h⟩ := h
  refine mz_VX S hG hM hS cf_9 k3 (As := []) (rest := []) (c_X10_undo hl0 h) yf_X10_undo tw_1411 tw_1412 tw_1413 ⟨Nat.le_of_ble_eq_true rfl, Nat.le_of_ble_eq_true rfl⟩ ⟨(Nat.le_of_ble_eq_true rfl), (Nat.le_of_ble_eq_true rfl)⟩ rfl hl.1 rfl (Nat.le_of_ble_eq_true rfl) dL_undo_1 (fun E ce q9 μ9 H locs hp hM hS hc9 hv9 hcl9 => ?_) (fun v9 μ5 H locs hp hM hS => ?_)
  · have h := hp
    obtain ⟨rfl, h⟩ := h
    refine vx_catch S.2.2.2.1 (name := "java/util/NoSuchElementException") [] ⟨0, 4, 5, 37⟩ [] (by rw [htab]; rfl) (fun z hz => absurd hz List.not_mem_nil) (by decide) (by decide) (S.2.2.2.2 _ tw_408) (hG.cast (i := 415) (by decide +kernel)) hc9 hv9 hcl9 ?_
    refine W.cs (cells' := 1) (slots' := 6) rfl rfl ?_
    refine lv_astore_n (i := 1) (lv' := [(1, .ref q9), (0, va_rf r0)]) S.1 S.2.1 dL_undo_5 rfl hl (by decide) (by simp [List.filter, mz_cat]) (fun ls hl => ?_)
    refine lv_bipush (v := (-75)) S.1 S.2.1 dL_undo_6 (by decide) ?_
    exact mz_iret S hr hlk hM hS rfl (Nat.le_of_ble_eq_true rfl) (Nat.le_of_ble_eq_true rfl) dL_undo_8 ⟨_, rfl, h⟩
  · obtain ⟨u4, rfl, h⟩ := hp
    refine W.cs (cells' := 1) (slots' := 6) rfl rfl ?_
    exact mz_iret S hr hlk hM hS rfl (Nat.le_of_ble_eq_true rfl) (Nat.le_of_ble_eq_true rfl) dL_undo_4 ⟨_, rfl, h⟩
set_option maxRecDepth 100000 in
set_option maxHeartbeats 4000000 in
theorem c_L_restore {l : Launch} {G : mgT} {μ : mmT} {r0 : Option Nat} {Q : Int32 → mmT → Prop} (hl0 : l.stackTraces = false) (h : w_L_restore G μ r0 Q) : MH G l yL_restore cL_restore 2 (some .int) [(0, 4, 5, 22)] { frames := 7, cells := 1, slots := 6, locals := 123 } [va_rf r0] μ (pI Q) := by
  refine mz_MH (by decide +kernel) (by simp [lg_sl, mz_cat, mz_cr, mz_ci, mz_cl, mz_cf, mz_cd, mz_cn]) (fun p e s m args below meth c S hG hr hlk hnm htab => ?_)
  intro H locs ls hM hS hl
  have hl : lv_has ls 2 [(0, va_rf r0)] := by simpa [lv_args, mz_cat, mz_cr, mz_ci, mz_cl, mz_cf, mz_cd, mz_cn] using hl
  unfold w_L_restore at h
  refine mz_aload_n (x := r0) S.1 S.2.1 dL_restore_0 rfl (lv_at hl 0 rfl) ?_
  obtain ⟨a1, e2, h⟩ := h
  refine mz_o0 e2 ?_
  obtain ⟨k3, h⟩ := h
  refine mz_VX S hG hM hS cf_9 k3 (As := []) (rest := []) (c_X10_restore hl0 h) yf_X10_restore tw_1423 tw_1424 tw_1425 ⟨Nat.le_of_ble_eq_true rfl, Nat.le_of_ble_eq_true rfl⟩ ⟨(Nat.le_of_ble_eq_true rfl), (Nat.le_of_ble_eq_true rfl)⟩ rfl hl.1 rfl (Nat.le_of_ble_eq_true rfl) dL_restore_1 (fun E ce q9 μ9 H locs hp hM hS hc9 hv9 hcl9 => ?_) (fun v9 μ5 H locs hp hM hS => ?_)
  · have h := hp
    obtain ⟨rfl, h⟩ := h
    refine vx_catch S.2.2.2.1 (name := "java/lang/IllegalStateException") [] ⟨0, 4, 5, 22⟩ [] (by rw [htab]; rfl) (fun z hz => absurd hz List.not_mem_nil) (by decide) (by decide) (S.2.2.2.2 _ tw_506) (hG.cast (i := 513) (by decide +kernel)) hc9 hv9 hcl9 ?_
    refine W.cs (cells' := 1) (slots' := 6) rfl rfl ?_
    refine lv_astore_n (i := 1) (lv' := [(1, .ref q9), (0, va_rf r0)]) S.1 S.2.1 dL_restore_5 rfl hl (by decide) (by simp [List.filter, mz_cat]) (fun ls hl => ?_)
    refine lv_bipush (v := (-79)) S.1 S.2.1 dL_restore_6 (by decide) ?_
    exact mz_iret S hr hlk hM hS rfl (Nat.le_of_ble_eq_true rfl) (Nat.le_of_ble_eq_true rfl) dL_restore_8 ⟨_, rfl, h⟩
  · obtain ⟨u4, rfl, h⟩ := hp
    refine W.cs (cells' := 1) (slots' := 6) rfl rfl ?_
    exact mz_iret S hr hlk hM hS rfl (Nat.le_of_ble_eq_true rfl) (Nat.le_of_ble_eq_true rfl) dL_restore_4 ⟨_, rfl, h⟩
set_option maxRecDepth 100000 in
set_option maxHeartbeats 4000000 in
theorem c_J0_coder_7d493_D {l : Launch} {G : mgT} {μ : mmT} {o : Nat} {Q : Int32 → Prop} (h : w_J0_coder_7d493_D G μ o Q) : MC G l yJ0_coder_7d493 cJ0_coder_7d493 1 (some .byte) { frames := 0, cells := 0, slots := 0, locals := 0 } [.ref o] μ (pI (fun r μ' => μ' = μ ∧ Q r)) := by
  refine mz_MC (by decide +kernel) (Nat.le_of_ble_eq_true rfl) (fun p e s m args below meth c S hG hr hlk hnm => ?_)
  intro H locs ls hM hS hl
  have hl : lv_has ls 1 [(0, .ref o)] := hl
  unfold w_J0_coder_7d493_D at h
  refine va_gets S.1 S.2.1 (hG.2.2.2.2.2.2.2.2.2.2.1) hS S.2.2.2.1 (S.2.2.2.2 _ tw_877) (fun _ q => q) dJ0_coder_7d493_0 ?_
  obtain ⟨c1, h⟩ := h
  refine lv_if_eq (tgt := 13) S.1 S.2.1 dJ0_coder_7d493_3 (by decide) (fun c => absurd c c1) (fun _ => ?_)
  refine lv_aload_n S.1 S.2.1 dJ0_coder_7d493_6 rfl (lv_at hl 0 rfl) ?_
  obtain ⟨k2, h⟩ := h
  refine mz_geti S hG hM cf_10 fd_321 tw_996 dJ0_coder_7d493_7 k2 ?_
  refine lv_goto (tgt := 14) S.1 S.2.1 dJ0_coder_7d493_10 (by decide) ?_
  obtain ⟨f3, h⟩ := h
  exact mz_iret S hr hlk hM hS (mz_nB f3) (Nat.le_of_ble_eq_true rfl) (Nat.le_of_ble_eq_true rfl) dJ0_coder_7d493_14 ⟨_, rfl, rfl, h⟩
set_option maxRecDepth 100000 in
set_option maxHeartbeats 4000000 in
theorem c_J0_length_8abf5_D {l : Launch} {G : mgT} {μ : mmT} {o : Nat} {Q : Int32 → Prop} (h : w_J0_length_8abf5_D G μ o Q) : MC G l yJ0_length_8abf5 cJ0_length_8abf5 1 (some .int) { frames := 1, cells := 0, slots := 0, locals := 20 } [.ref o] μ (pI (fun r μ' => μ' = μ ∧ Q r)) := by
  refine mz_MC (by decide +kernel) (Nat.le_of_ble_eq_true rfl) (fun p e s m args below meth c S hG hr hlk hnm => ?_)
  intro H locs ls hM hS hl
  have hl : lv_has ls 1 [(0, .ref o)] := hl
  unfold w_J0_length_8abf5_D at h
  refine lv_aload_n S.1 S.2.1 dJ0_length_8abf5_0 rfl (lv_at hl 0 rfl) ?_
  obtain ⟨k1, h⟩ := h
  refine mz_getr S hG hM cf_10 fd_320 tw_995 dJ0_length_8abf5_1 k1 ?_
  obtain ⟨a2, e3, h⟩ := h
  refine mz_o0 e3 ?_
  obtain ⟨k4, h⟩ := h
  refine mz_alen (j := 0) S hG hM dJ0_length_8abf5_4 k4 ?_
  refine lv_aload_n S.1 S.2.1 dJ0_length_8abf5_5 rfl (lv_at hl 0 rfl) ?_
  refine mz_V S hG hM hS cf_10 k1 (As := []) (rest := [.int (nI (mN μ a2))]) (c_J0_coder_7d493_D h) yf_J0_coder_7d493 tw_873 tw_874 tw_875 ⟨Nat.le_of_ble_eq_true rfl, Nat.le_of_ble_eq_true rfl⟩ ⟨(Nat.le_of_ble_eq_true rfl), (Nat.le_of_ble_eq_true rfl)⟩ rfl hl.1 rfl (Nat.le_of_ble_eq_true rfl) dJ0_length_8abf5_6 (fun v9 μ9 H locs hp hM hS => ?_)
  obtain ⟨u5, rfl, e9, h⟩ := hp
  rw [e9] at hM
  refine W.cs (cells' := 0) (slots' := 0) rfl rfl ?_
  refine lv_ishr S.1 S.2.1 dJ0_length_8abf5_9 ?_
  exact mz_iret S hr hlk hM hS rfl (Nat.le_of_ble_eq_true rfl) (Nat.le_of_ble_eq_true rfl) dJ0_length_8abf5_10 ⟨_, rfl, rfl, h⟩
set_option maxRecDepth 100000 in
set_option maxHeartbeats 4000000 in
theorem c_J0_isLatin1_aae02_D {l : Launch} {G : mgT} {μ : mmT} {o : Nat} {Q : Int32 → Prop} (h : w_J0_isLatin1_aae02_D G μ o Q) : MC G l yJ0_isLatin1_aae02 cJ0_isLatin1_aae02 1 (some .boolean) { frames := 0, cells := 0, slots := 0, locals := 0 } [.ref o] μ (pI (fun r μ' => μ' = μ ∧ Q r)) := by
  refine mz_MC (by decide +kernel) (Nat.le_of_ble_eq_true rfl) (fun p e s m args below meth c S hG hr hlk hnm => ?_)
  intro H locs ls hM hS hl
  have hl : lv_has ls 1 [(0, .ref o)] := hl
  unfold w_J0_isLatin1_aae02_D at h
  refine va_gets S.1 S.2.1 (hG.2.2.2.2.2.2.2.2.2.2.1) hS S.2.2.2.1 (S.2.2.2.2 _ tw_877) (fun _ q => q) dJ0_isLatin1_aae02_0 ?_
  obtain ⟨c1, h⟩ := h
  refine lv_if_eq (tgt := 17) S.1 S.2.1 dJ0_isLatin1_aae02_3 (by decide) (fun c => absurd c c1) (fun _ => ?_)
  refine lv_aload_n S.1 S.2.1 dJ0_isLatin1_aae02_6 rfl (lv_at hl 0 rfl) ?_
  obtain ⟨k2, h⟩ := h
  refine mz_geti S hG hM cf_10 fd_321 tw_996 dJ0_isLatin1_aae02_7 k2 ?_
  obtain ⟨c3, h⟩ := h
  refine lv_if_ne (tgt := 17) S.1 S.2.1 dJ0_isLatin1_aae02_10 (by decide) (fun c => absurd c3 c) (fun _ => ?_)
  refine lv_iconst (v := (nI 1)) S.1 S.2.1 dJ0_isLatin1_aae02_13 (by decide) ?_
  refine lv_goto (tgt := 18) S.1 S.2.1 dJ0_isLatin1_aae02_14 (by decide) ?_
  exact mz_iret S hr hlk hM hS rfl (Nat.le_of_ble_eq_true rfl) (Nat.le_of_ble_eq_true rfl) dJ0_isLatin1_aae02_18 ⟨_, rfl, rfl, h⟩
set_option maxRecDepth 100000 in
set_option maxHeartbeats 4000000 in
theorem c_J1_charAt_3b067_D {l : Launch} {G : mgT} {μ : mmT} {r0 : Option Nat} {x1 : Int32} {Q : Int32 → Prop} (h : w_J1_charAt_3b067_D G μ r0 x1 Q) : MC G l yJ1_charAt_3b067 cJ1_charAt_3b067 2 (some .char) { frames := 2, cells := 0, slots := 0, locals := 43 } [va_rf r0, .int x1] μ (pI (fun r μ' => μ' = μ ∧ Q r)) := by
  refine mz_MC (by decide +kernel) (by simp [lg_sl, mz_cat, mz_cr, mz_ci, mz_cl, mz_cf, mz_cd, mz_cn]) (fun p e s m args below meth c S hG hr hlk hnm => ?_)
  intro H locs ls hM hS hl
  have hl : lv_has ls 2 [(0, va_rf r0), (1, .int x1)] := by simpa [lv_args, mz_cat, mz_cr, mz_ci, mz_cl, mz_cf, mz_cd, mz_cn] using hl
  unfold w_J1_charAt_3b067_D at h
  refine lv_iload_n S.1 S.2.1 dJ1_charAt_3b067_0 rfl (lv_at hl 1 rfl) ?_
  refine mz_aload_n (x := r0) S.1 S.2.1 dJ1_charAt_3b067_1 rfl (lv_at hl 0 rfl) ?_
  obtain ⟨a1, e2, h⟩ := h
  refine mz_o0 e2 ?_
  obtain ⟨k3, h⟩ := h
  refine mz_alen (j := 0) S hG hM dJ1_charAt_3b067_2 k3 ?_
  refine mz_S S hG hM hS (As := [.int x1, .int (nI (mN μ a1))]) (rest := []) (c_J0_checkIndex_df160 h) yf_J0_checkIndex_df160 tw_1020 tw_1021 ⟨Nat.le_of_ble_eq_true rfl, Nat.le_of_ble_eq_true rfl⟩ ⟨(Nat.le_of_ble_eq_true rfl), (Nat.le_of_ble_eq_true rfl)⟩ rfl hl.1 rfl (Nat.le_of_ble_eq_true rfl) dJ1_charAt_3b067_3 (fun v9 μ9 H locs hp hM hS => ?_)
  obtain ⟨rfl, e9, h⟩ := hp
  rw [e9] at hM
  refine W.cs (cells' := 0) (slots' := 0) rfl rfl ?_
  refine mz_aload_n (x := r0) S.1 S.2.1 dJ1_charAt_3b067_6 rfl (lv_at hl 0 rfl) ?_
  refine lv_iload_n S.1 S.2.1 dJ1_charAt_3b067_7 rfl (lv_at hl 1 rfl) ?_
  refine mz_o1 e2 ?_
  obtain ⟨b4, h⟩ := h
  refine mz_bald S hG hM dJ1_charAt_3b067_8 k3 b4 ?_
  refine lv_sipush (v := (nI 255)) S.1 S.2.1 dJ1_charAt_3b067_9 (by decide) ?_
  refine lv_iand S.1 S.2.1 dJ1_charAt_3b067_12 ?_
  refine lv_i2c S.1 S.2.1 dJ1_charAt_3b067_13 rfl ?_
  obtain ⟨f5, h⟩ := h
  exact mz_iret S hr hlk hM hS (mz_nC f5) (Nat.le_of_ble_eq_true rfl) (Nat.le_of_ble_eq_true rfl) dJ1_charAt_3b067_14 ⟨_, rfl, rfl, h⟩
set_option maxRecDepth 100000 in
set_option maxHeartbeats 4000000 in
theorem c_J0_charAt_5068e_D {l : Launch} {G : mgT} {μ : mmT} {o : Nat} {x1 : Int32} {Q : Int32 → Prop} (h : w_J0_charAt_5068e_D G μ o x1 Q) : MC G l yJ0_charAt_5068e cJ0_charAt_5068e 2 (some .char) { frames := 3, cells := 0, slots := 0, locals := 64 } [.ref o, .int x1] μ (pI (fun r μ' => μ' = μ ∧ Q r)) := by
  refine mz_MC (by decide +kernel) (Nat.le_of_ble_eq_true rfl) (fun p e s m args below meth c S hG hr hlk hnm => ?_)
  intro H locs ls hM hS hl
  have hl : lv_has ls 2 [(0, .ref o), (1, .int x1)] := hl
  unfold w_J0_charAt_5068e_D at h
  refine lv_aload_n S.1 S.2.1 dJ0_charAt_5068e_0 rfl (lv_at hl 0 rfl) ?_
  obtain ⟨k1, h⟩ := h
  refine mz_V S hG hM hS cf_10 k1 (As := []) (rest := []) (c_J0_isLatin1_aae02_D h) yf_J0_isLatin1_aae02 tw_1013 tw_1014 tw_1015 ⟨Nat.le_of_ble_eq_true rfl, Nat.le_of_ble_eq_true rfl⟩ ⟨(Nat.le_of_ble_eq_true rfl), (Nat.le_of_ble_eq_true rfl)⟩ rfl hl.1 rfl (Nat.le_of_ble_eq_true rfl) dJ0_charAt_5068e_1 (fun v9 μ9 H locs hp hM hS => ?_)
  obtain ⟨u2, rfl, e9, h⟩ := hp
  rw [e9] at hM
  refine W.cs (cells' := 0) (slots' := 0) rfl rfl ?_
  obtain ⟨c3, h⟩ := h
  refine lv_if_eq (tgt := 16) S.1 S.2.1 dJ0_charAt_5068e_4 (by decide) (fun c => absurd c c3) (fun _ => ?_)
  refine lv_aload_n S.1 S.2.1 dJ0_charAt_5068e_7 rfl (lv_at hl 0 rfl) ?_
  refine mz_getr S hG hM cf_10 fd_320 tw_995 dJ0_charAt_5068e_8 k1 ?_
  refine lv_iload_n S.1 S.2.1 dJ0_charAt_5068e_11 rfl (lv_at hl 1 rfl) ?_
  refine mz_S S hG hM hS (As := [va_rf (mR μ 320 o), .int x1]) (rest := []) (c_J1_charAt_3b067_D h) yf_J1_charAt_3b067 tw_1017 tw_1018 ⟨Nat.le_of_ble_eq_true rfl, Nat.le_of_ble_eq_true rfl⟩ ⟨(Nat.le_of_ble_eq_true rfl), (Nat.le_of_ble_eq_true rfl)⟩ rfl hl.1 rfl (Nat.le_of_ble_eq_true rfl) dJ0_charAt_5068e_12 (fun v9 μ9 H locs hp hM hS => ?_)
  obtain ⟨u4, rfl, e9, h⟩ := hp
  rw [e9] at hM
  refine W.cs (cells' := 0) (slots' := 0) rfl rfl ?_
  obtain ⟨f5, h⟩ := h
  exact mz_iret S hr hlk hM hS (mz_nC f5) (Nat.le_of_ble_eq_true rfl) (Nat.le_of_ble_eq_true rfl) dJ0_charAt_5068e_15 ⟨_, rfl, rfl, h⟩
set_option maxRecDepth 100000 in
set_option maxHeartbeats 4000000 in
theorem c_L_runs {l : Launch} {G : mgT} {μ : mmT} {r0 : Option Nat} {r1 : Option Nat} {Q : Int32 → mmT → Prop} (hl0 : l.stackTraces = false) (h : w_L_runs G μ r0 r1 Q) : MC G l yL_runs cL_runs 4 (some .int) { frames := 9, cells := 17, slots := 102, locals := 236 } [va_rf r0, va_rf r1] μ (pI Q) := by
  refine mz_MC (by decide +kernel) (by simp [lg_sl, mz_cat, mz_cr, mz_ci, mz_cl, mz_cf, mz_cd, mz_cn]) (fun p e s m args below meth c S hG hr hlk hnm => ?_)
  have hB2 : ∀ (n : Nat) (r0 : Option Nat) (r1 : Option Nat) (x2 : Int32) (t2 : Nat) (μ : mmT) (H : Heap) (locs : List Loc) (ls : Array Slot), Mm G μ H → va_S (Ah G) s.heap H locs → lv_has ls 4 [(0, va_rf r0), (1, va_rf r1), (2, .int x2)] → w_L_runs_l2 G Q  n r0 r1 x2 t2 μ → W p l e { frames := 9, cells := 17, slots := 102, locals := 236 } s m args below meth c H locs (0 + 1 * t2) (0 + 6 * t2) (MQ below (mQ G (pI Q)) args s 17 102 (Ah G)) (F0 m 2 ls []) := by
    intro  n
    induction n with
    | zero =>
      intro r0 r1 x2 t2 μ H locs ls hM hS hl h
      exact False.elim h
    | succ n ih =>
      intro r0 r1 x2 t2 μ H locs ls hM hS hl h
      have h : w_L_runs_b2 G Q  (w_L_runs_l2 G Q  n) r0 r1 x2 t2 μ := h
      unfold w_L_runs_b2 at h
      obtain ⟨ht2, h⟩ := h
      refine lv_iload_n S.1 S.2.1 dL_runs_2 rfl (lv_at hl 2 rfl) ?_
      refine mz_aload_n (x := r1) S.1 S.2.1 dL_runs_3 rfl (lv_at hl 1 rfl) ?_
      obtain ⟨a1, e2, h⟩ := h
      refine mz_o0 e2 ?_
      obtain ⟨k3, h⟩ := h
      refine mz_V S hG hM hS cf_10 k3 (As := []) (rest := [.int x2]) (c_J0_length_8abf5_D h) yf_J0_length_8abf5 tw_1008 tw_870 tw_871 ⟨Nat.le_of_ble_eq_true rfl, Nat.le_of_ble_eq_true rfl⟩ ⟨(by show (0 + 1 * t2) + 0 ≤ 17; omega), (by show (0 + 6 * t2) + 0 ≤ 102; omega)⟩ rfl hl.1 rfl (Nat.le_of_ble_eq_true rfl) dL_runs_4 (fun v9 μ9 H locs hp hM hS => ?_)
      obtain ⟨u4, rfl, e9, h⟩ := hp
      rw [e9] at hM
      refine W.cs (cells' := 0 + 1 * t2) (slots' := 0 + 6 * t2) (by first | omega | (dsimp only; omega)) (by first | omega | (dsimp only; omega)) ?_
      refine lv_icmp_ge (tgt := 26) S.1 S.2.1 dL_runs_7 (by decide) (fun c5 => ?_) (fun c5 => ?_)
      · have h := h.1 c5
        refine mz_aload_n (x := r0) S.1 S.2.1 dL_runs_26 rfl (lv_at hl 0 rfl) ?_
        refine mz_SH S hG hM hS (As := [va_rf r0]) (rest := []) (c_L_runScript hl0 h) yh_L_runScript tw_1046 tw_1047 ⟨Nat.le_of_ble_eq_true rfl, Nat.le_of_ble_eq_true rfl⟩ ⟨(by show (0 + 1 * t2) + 1 ≤ 17; omega), (by show (0 + 6 * t2) + 6 ≤ 102; omega)⟩ rfl hl.1 rfl (Nat.le_of_ble_eq_true rfl) dL_runs_27 (fun v9 μ7 H locs hp hM hS => ?_)
        obtain ⟨u6, rfl, h⟩ := hp
        refine W.cs (cells' := 1 + 1 * t2) (slots' := 6 + 6 * t2) (by first | omega | (dsimp only; omega)) (by first | omega | (dsimp only; omega)) ?_
        exact mz_iret S hr hlk hM hS rfl (by show _ ≤ 17; omega) (by show _ ≤ 102; omega) dL_runs_30 ⟨_, rfl, h⟩
      · have h := h.2 c5
        refine mz_aload_n (x := r0) S.1 S.2.1 dL_runs_10 rfl (lv_at hl 0 rfl) ?_
        refine mz_aload_n (x := r1) S.1 S.2.1 dL_runs_11 rfl (lv_at hl 1 rfl) ?_
        refine lv_iload_n S.1 S.2.1 dL_runs_12 rfl (lv_at hl 2 rfl) ?_
        refine mz_o1 e2 ?_
        refine mz_V S hG hM hS cf_10 k3 (As := [.int x2]) (rest := [va_rf r0]) (c_J0_charAt_5068e_D h) yf_J0_charAt_5068e tw_1009 tw_1010 tw_1011 ⟨Nat.le_of_ble_eq_true rfl, Nat.le_of_ble_eq_true rfl⟩ ⟨(by show (0 + 1 * t2) + 0 ≤ 17; omega), (by show (0 + 6 * t2) + 0 ≤ 102; omega)⟩ rfl hl.1 rfl (by simp [mz_cat, mz_cr, mz_ci, mz_cl, mz_cf, mz_cd, mz_cn]) dL_runs_13 (fun v9 μ9 H locs hp hM hS => ?_)
        obtain ⟨u8, rfl, e9, h⟩ := hp
        rw [e9] at hM
        refine W.cs (cells' := 0 + 1 * t2) (slots' := 0 + 6 * t2) (by first | omega | (dsimp only; omega)) (by first | omega | (dsimp only; omega)) ?_
        refine mz_SH S hG hM hS (As := [va_rf r0, .int u8]) (rest := []) (c_L_type hl0 h) yh_L_type tw_1033 tw_1034 ⟨Nat.le_of_ble_eq_true rfl, Nat.le_of_ble_eq_true rfl⟩ ⟨(by show (0 + 1 * t2) + 1 ≤ 17; omega), (by show (0 + 6 * t2) + 6 ≤ 102; omega)⟩ rfl hl.1 rfl (Nat.le_of_ble_eq_true rfl) dL_runs_16 (fun v9 μ10 H locs hp hM hS => ?_)
        obtain ⟨u9, rfl, h⟩ := hp
        refine W.cs (cells' := 1 + 1 * t2) (slots' := 6 + 6 * t2) (by first | omega | (dsimp only; omega)) (by first | omega | (dsimp only; omega)) ?_
        refine lv_istore_n (lv' := [(3, .int u9), (0, va_rf r0), (1, va_rf r1), (2, .int x2)]) S.1 S.2.1 dL_runs_19 rfl hl (by decide) rfl (fun ls hl => ?_)
        refine lv_iinc (v := (x2 + nI 1)) (lv' := [(2, .int (x2 + nI 1)), (3, .int u9), (0, va_rf r0), (1, va_rf r1)]) S.1 S.2.1 dL_runs_20 hl (k := 3) rfl rfl (by decide) (by simp [List.filter, mz_cat]) (fun ls hl => ?_)
        refine lv_goto (tgt := 2) S.1 S.2.1 dL_runs_23 (by decide) ?_
        refine W.widen (k := 0 + 1 * (t2 + 1)) (n := 0 + 6 * (t2 + 1)) (by omega) (by omega) ?_
        exact ih r0 r1 (x2 + nI 1) (t2 + 1) μ10 H locs ls hM hS (lv_sub hl [2, 3, 0] rfl) h
  intro H locs ls hM hS hl
  have hl : lv_has ls 4 [(0, va_rf r0), (1, va_rf r1)] := by simpa [lv_args, mz_cat, mz_cr, mz_ci, mz_cl, mz_cf, mz_cd, mz_cn] using hl
  unfold w_L_runs at h
  refine lv_iconst (v := (nI 0)) S.1 S.2.1 dL_runs_0 (by decide) ?_
  refine lv_istore_n (i := 2) (lv' := [(2, .int (nI 0)), (0, va_rf r0), (1, va_rf r1)]) S.1 S.2.1 dL_runs_1 rfl hl (by decide) (by simp [List.filter, mz_cat]) (fun ls hl => ?_)
  obtain ⟨n9, h⟩ := h
  refine W.widen (k := 0 + 1 * 0) (n := 0 + 6 * 0) (by omega) (by omega) ?_
  exact hB2  n9 r0 r1 (nI 0) 0 μ H locs ls hM hS (lv_sub hl [1, 2, 0] rfl) h
set_option maxRecDepth 100000 in
set_option maxHeartbeats 4000000 in
theorem c_L_sum {l : Launch} {G : mgT} {μ : mmT} {r0 : Option Nat} {Q : Int64 → Prop} (hl0 : l.stackTraces = false) (h : w_L_sum G μ r0 Q) : MC G l yL_sum cL_sum 5 (some .long) { frames := 9, cells := 299, slots := 1794, locals := 168 } [va_rf r0] μ (pL (fun r μ' => μ' = μ ∧ Q r)) := by
  refine mz_MC (by decide +kernel) (by simp [lg_sl, mz_cat, mz_cr, mz_ci, mz_cl, mz_cf, mz_cd, mz_cn]) (fun p e s m args below meth c S hG hr hlk hnm => ?_)
  have hB209 : ∀ (n : Nat) (r0 : Option Nat) (x1 : Int64) (x3 : Int32) (t209 : Nat) (H : Heap) (locs : List Loc) (ls : Array Slot), Mm G μ H → va_S (Ah G) s.heap H locs → lv_has ls 5 [(0, va_rf r0), (1, .long x1), (3, .int x3)] → w_L_sum_l209 G μ Q  n r0 x1 x3 t209 → W p l e { frames := 9, cells := 299, slots := 1794, locals := 168 } s m args below meth c H locs (180 + 7 * t209) (1080 + 42 * t209) (MQ below (mQ G (pL (fun r μ' => μ' = μ ∧ Q r))) args s 299 1794 (Ah G)) (F0 m 209 ls []) := by
    intro  n
    induction n with
    | zero =>
      intro r0 x1 x3 t209 H locs ls hM hS hl h
      exact False.elim h
    | succ n ih =>
      intro r0 x1 x3 t209 H locs ls hM hS hl h
      have h : w_L_sum_b209 G μ Q  (w_L_sum_l209 G μ Q  n) r0 x1 x3 t209 := h
      unfold w_L_sum_b209 at h
      obtain ⟨ht209, h⟩ := h
      refine lv_iload_n S.1 S.2.1 dL_sum_209 rfl (lv_at hl 2 rfl) ?_
      refine mz_aload_n (x := r0) S.1 S.2.1 dL_sum_210 rfl (lv_at hl 0 rfl) ?_
      obtain ⟨a22, e23, h⟩ := h
      refine mz_o0 e23 ?_
      obtain ⟨k24, h⟩ := h
      refine mz_V S hG hM hS cf_9 k24 (As := []) (rest := [.int x3]) (c_X10_messageCount h) yf_X10_messageCount tw_374 tw_375 tw_376 ⟨Nat.le_of_ble_eq_true rfl, Nat.le_of_ble_eq_true rfl⟩ ⟨(by show (180 + 7 * t209) + 0 ≤ 299; omega), (by show (1080 + 42 * t209) + 0 ≤ 1794; omega)⟩ rfl hl.1 rfl (Nat.le_of_ble_eq_true rfl) dL_sum_211 (fun v9 μ9 H locs hp hM hS => ?_)
      obtain ⟨u25, rfl, e9, h⟩ := hp
      rw [e9] at hM
      refine W.cs (cells' := 180 + 7 * t209) (slots' := 1080 + 42 * t209) (by first | omega | (dsimp only; omega)) (by first | omega | (dsimp only; omega)) ?_
      refine lv_icmp_ge (tgt := 302) S.1 S.2.1 dL_sum_214 (by decide) (fun c26 => ?_) (fun c26 => ?_)
      · have h := h.1 c26
        refine lv_lload_n S.1 S.2.1 dL_sum_302 rfl (lv_at hl 1 rfl) ?_
        exact mz_lret S hr hlk hM hS (by show _ ≤ 299; omega) (by show _ ≤ 1794; omega) dL_sum_303 ⟨_, rfl, rfl, h⟩
      · have h := h.2 c26
        refine mz_aload_n (x := r0) S.1 S.2.1 dL_sum_217 rfl (lv_at hl 0 rfl) ?_
        refine lv_iload_n S.1 S.2.1 dL_sum_218 rfl (lv_at hl 2 rfl) ?_
        refine mz_SH S hG hM hS (As := [va_rf r0, .int x3]) (rest := []) (c_L_messageAt hl0 h) yh_L_messageAt tw_405 tw_406 ⟨Nat.le_of_ble_eq_true rfl, Nat.le_of_ble_eq_true rfl⟩ ⟨(by show (180 + 7 * t209) + 1 ≤ 299; omega), (by show (1080 + 42 * t209) + 6 ≤ 1794; omega)⟩ rfl hl.1 rfl (Nat.le_of_ble_eq_true rfl) dL_sum_219 (fun v9 μ9 H locs hp hM hS => ?_)
        obtain ⟨u27, rfl, e9, h⟩ := hp
        rw [e9] at hM
        refine W.cs (cells' := 181 + 7 * t209) (slots' := 1086 + 42 * t209) (by first | omega | (dsimp only; omega)) (by first | omega | (dsimp only; omega)) ?_
        refine lv_istore (lv' := [(4, .int u27), (0, va_rf r0), (1, .long x1), (3, .int x3)]) S.1 S.2.1 dL_sum_222 hl (by decide) rfl (fun ls hl => ?_)
        refine lv_ldc2 (v := 31) S.1 S.2.1 S.2.2.2.1 (S.2.2.2.2 _ tw_1107) dL_sum_224 ?_
        refine lv_lload_n S.1 S.2.1 dL_sum_227 rfl (lv_at hl 2 rfl) ?_
        refine lv_lmul S.1 S.2.1 dL_sum_228 ?_
        refine lv_ldc2 (v := 1009) S.1 S.2.1 S.2.2.2.1 (S.2.2.2.2 _ tw_1117) dL_sum_229 ?_
        refine lv_iload S.1 S.2.1 dL_sum_232 (lv_at hl 0 rfl) ?_
        refine lv_i2l S.1 S.2.1 dL_sum_234 rfl ?_
        refine lv_lmul S.1 S.2.1 dL_sum_235 ?_
        refine lv_ladd S.1 S.2.1 dL_sum_236 ?_
        refine lv_ldc2 (v := 101) S.1 S.2.1 S.2.2.2.1 (S.2.2.2.2 _ tw_1122) dL_sum_237 ?_
        refine mz_aload_n (x := r0) S.1 S.2.1 dL_sum_240 rfl (lv_at hl 1 rfl) ?_
        refine lv_iload S.1 S.2.1 dL_sum_241 (lv_at hl 0 rfl) ?_
        refine mz_SH S hG hM hS (As := [va_rf r0, .int u27]) (rest := [.long (101 : Int64), .long (((31 : Int64) * x1) + ((1009 : Int64) * u27.toInt64))]) (c_L_nestOf hl0 h) yh_L_nestOf tw_1191 tw_1192 ⟨Nat.le_of_ble_eq_true rfl, Nat.le_of_ble_eq_true rfl⟩ ⟨(by show (181 + 7 * t209) + 1 ≤ 299; omega), (by show (1086 + 42 * t209) + 6 ≤ 1794; omega)⟩ rfl hl.1 rfl (Nat.le_of_ble_eq_true rfl) dL_sum_243 (fun v9 μ9 H locs hp hM hS => ?_)
        obtain ⟨u28, rfl, e9, h⟩ := hp
        rw [e9] at hM
        refine W.cs (cells' := 182 + 7 * t209) (slots' := 1092 + 42 * t209) (by first | omega | (dsimp only; omega)) (by first | omega | (dsimp only; omega)) ?_
        refine lv_i2l S.1 S.2.1 dL_sum_246 rfl ?_
        refine lv_lmul S.1 S.2.1 dL_sum_247 ?_
        refine lv_ladd S.1 S.2.1 dL_sum_248 ?_
        refine mz_aload_n (x := r0) S.1 S.2.1 dL_sum_249 rfl (lv_at hl 1 rfl) ?_
        refine lv_iload S.1 S.2.1 dL_sum_250 (lv_at hl 0 rfl) ?_
        refine mz_SH S hG hM hS (As := [va_rf r0, .int u27]) (rest := [.long ((((31 : Int64) * x1) + ((1009 : Int64) * u27.toInt64)) + ((101 : Int64) * u28.toInt64))]) (c_L_keyOf hl0 h) yh_L_keyOf tw_1198 tw_1199 ⟨Nat.le_of_ble_eq_true rfl, Nat.le_of_ble_eq_true rfl⟩ ⟨(by show (182 + 7 * t209) + 1 ≤ 299; omega), (by show (1092 + 42 * t209) + 6 ≤ 1794; omega)⟩ rfl hl.1 rfl (Nat.le_of_ble_eq_true rfl) dL_sum_252 (fun v9 μ9 H locs hp hM hS => ?_)
        obtain ⟨u29, rfl, e9, h⟩ := hp
        rw [e9] at hM
        refine W.cs (cells' := 183 + 7 * t209) (slots' := 1098 + 42 * t209) (by first | omega | (dsimp only; omega)) (by first | omega | (dsimp only; omega)) ?_
        refine lv_i2l S.1 S.2.1 dL_sum_255 rfl ?_
        refine lv_ladd S.1 S.2.1 dL_sum_256 ?_
        refine lv_lstore_n (i := 1) (lv' := [(1, .long (((((31 : Int64) * x1) + ((1009 : Int64) * u27.toInt64)) + ((101 : Int64) * u28.toInt64)) + u29.toInt64)), (4, .int u27), (0, va_rf r0), (3, .int x3)]) S.1 S.2.1 dL_sum_257 rfl hl (by decide) (by simp [List.filter, mz_cat]) (fun ls hl => ?_)
        refine lv_ldc2 (v := 31) S.1 S.2.1 S.2.2.2.1 (S.2.2.2.2 _ tw_1107) dL_sum_258 ?_
        refine lv_lload_n S.1 S.2.1 dL_sum_261 rfl (lv_at hl 0 rfl) ?_
        refine lv_lmul S.1 S.2.1 dL_sum_262 ?_
        refine lv_ldc2 (v := 101) S.1 S.2.1 S.2.2.2.1 (S.2.2.2.2 _ tw_1122) dL_sum_263 ?_
        refine mz_aload_n (x := r0) S.1 S.2.1 dL_sum_266 rfl (lv_at hl 2 rfl) ?_
        refine lv_iload S.1 S.2.1 dL_sum_267 (lv_at hl 1 rfl) ?_
        refine mz_SH S hG hM hS (As := [va_rf r0, .int u27]) (rest := [.long (101 : Int64), .long ((31 : Int64) * (((((31 : Int64) * x1) + ((1009 : Int64) * u27.toInt64)) + ((101 : Int64) * u28.toInt64)) + u29.toInt64))]) (c_L_attempts hl0 h) yh_L_attempts tw_1205 tw_1206 ⟨Nat.le_of_ble_eq_true rfl, Nat.le_of_ble_eq_true rfl⟩ ⟨(by show (183 + 7 * t209) + 1 ≤ 299; omega), (by show (1098 + 42 * t209) + 6 ≤ 1794; omega)⟩ rfl hl.1 rfl (Nat.le_of_ble_eq_true rfl) dL_sum_269 (fun v9 μ9 H locs hp hM hS => ?_)
        obtain ⟨u30, rfl, e9, h⟩ := hp
        rw [e9] at hM
        refine W.cs (cells' := 184 + 7 * t209) (slots' := 1104 + 42 * t209) (by first | omega | (dsimp only; omega)) (by first | omega | (dsimp only; omega)) ?_
        refine lv_i2l S.1 S.2.1 dL_sum_272 rfl ?_
        refine lv_lmul S.1 S.2.1 dL_sum_273 ?_
        refine lv_ladd S.1 S.2.1 dL_sum_274 ?_
        refine mz_aload_n (x := r0) S.1 S.2.1 dL_sum_275 rfl (lv_at hl 2 rfl) ?_
        refine lv_iload S.1 S.2.1 dL_sum_276 (lv_at hl 1 rfl) ?_
        refine mz_SH S hG hM hS (As := [va_rf r0, .int u27]) (rest := [.long (((31 : Int64) * (((((31 : Int64) * x1) + ((1009 : Int64) * u27.toInt64)) + ((101 : Int64) * u28.toInt64)) + u29.toInt64)) + ((101 : Int64) * u30.toInt64))]) (c_L_status hl0 h) yh_L_status tw_483 tw_484 ⟨Nat.le_of_ble_eq_true rfl, Nat.le_of_ble_eq_true rfl⟩ ⟨(by show (184 + 7 * t209) + 1 ≤ 299; omega), (by show (1104 + 42 * t209) + 6 ≤ 1794; omega)⟩ rfl hl.1 rfl (Nat.le_of_ble_eq_true rfl) dL_sum_278 (fun v9 μ9 H locs hp hM hS => ?_)
        obtain ⟨u31, rfl, e9, h⟩ := hp
        rw [e9] at hM
        refine W.cs (cells' := 185 + 7 * t209) (slots' := 1110 + 42 * t209) (by first | omega | (dsimp only; omega)) (by first | omega | (dsimp only; omega)) ?_
        refine lv_i2l S.1 S.2.1 dL_sum_281 rfl ?_
        refine lv_ladd S.1 S.2.1 dL_sum_282 ?_
        refine lv_ldc2 (v := 7) S.1 S.2.1 S.2.2.2.1 (S.2.2.2.2 _ tw_1212) dL_sum_283 ?_
        refine mz_aload_n (x := r0) S.1 S.2.1 dL_sum_286 rfl (lv_at hl 2 rfl) ?_
        refine lv_iload S.1 S.2.1 dL_sum_287 (lv_at hl 1 rfl) ?_
        refine mz_SH S hG hM hS (As := [va_rf r0, .int u27]) (rest := [.long (7 : Int64), .long ((((31 : Int64) * (((((31 : Int64) * x1) + ((1009 : Int64) * u27.toInt64)) + ((101 : Int64) * u28.toInt64)) + u29.toInt64)) + ((101 : Int64) * u30.toInt64)) + u31.toInt64)]) (c_L_napMinutes hl0 h) yh_L_napMinutes tw_503 tw_504 ⟨Nat.le_of_ble_eq_true rfl, Nat.le_of_ble_eq_true rfl⟩ ⟨(by show (185 + 7 * t209) + 2 ≤ 299; omega), (by show (1110 + 42 * t209) + 12 ≤ 1794; omega)⟩ rfl hl.1 rfl (Nat.le_of_ble_eq_true rfl) dL_sum_289 (fun v9 μ9 H locs hp hM hS => ?_)
        obtain ⟨u32, rfl, e9, h⟩ := hp
        rw [e9] at hM
        refine W.cs (cells' := 187 + 7 * t209) (slots' := 1122 + 42 * t209) (by first | omega | (dsimp only; omega)) (by first | omega | (dsimp only; omega)) ?_
        refine lv_i2l S.1 S.2.1 dL_sum_292 rfl ?_
        refine lv_lmul S.1 S.2.1 dL_sum_293 ?_
        refine lv_ladd S.1 S.2.1 dL_sum_294 ?_
        refine lv_lstore_n (i := 1) (lv' := [(1, .long (((((31 : Int64) * (((((31 : Int64) * x1) + ((1009 : Int64) * u27.toInt64)) + ((101 : Int64) * u28.toInt64)) + u29.toInt64)) + ((101 : Int64) * u30.toInt64)) + u31.toInt64) + ((7 : Int64) * u32.toInt64))), (4, .int u27), (0, va_rf r0), (3, .int x3)]) S.1 S.2.1 dL_sum_295 rfl hl (by decide) (by simp [List.filter, mz_cat]) (fun ls hl => ?_)
        refine lv_iinc (v := (x3 + nI 1)) (lv' := [(3, .int (x3 + nI 1)), (1, .long (((((31 : Int64) * (((((31 : Int64) * x1) + ((1009 : Int64) * u27.toInt64)) + ((101 : Int64) * u28.toInt64)) + u29.toInt64)) + ((101 : Int64) * u30.toInt64)) + u31.toInt64) + ((7 : Int64) * u32.toInt64))), (4, .int u27), (0, va_rf r0)]) S.1 S.2.1 dL_sum_296 hl (k := 3) rfl rfl (by decide) rfl (fun ls hl => ?_)
        refine lv_goto (tgt := 209) S.1 S.2.1 dL_sum_299 (by decide) ?_
        refine W.widen (k := 180 + 7 * (t209 + 1)) (n := 1080 + 42 * (t209 + 1)) (by omega) (by omega) ?_
        exact ih r0 (((((31 : Int64) * (((((31 : Int64) * x1) + ((1009 : Int64) * u27.toInt64)) + ((101 : Int64) * u28.toInt64)) + u29.toInt64)) + ((101 : Int64) * u30.toInt64)) + u31.toInt64) + ((7 : Int64) * u32.toInt64)) (x3 + nI 1) (t209 + 1) H locs ls hM hS (lv_sub hl [3, 1, 0] rfl) h
  have hB169 : ∀ (n : Nat) (r0 : Option Nat) (x1 : Int64) (x3 : Int32) (t169 : Nat) (H : Heap) (locs : List Loc) (ls : Array Slot), Mm G μ H → va_S (Ah G) s.heap H locs → lv_has ls 5 [(0, va_rf r0), (1, .long x1), (3, .int x3)] → w_L_sum_l169 G μ Q  n r0 x1 x3 t169 → W p l e { frames := 9, cells := 299, slots := 1794, locals := 168 } s m args below meth c H locs (168 + 3 * t169) (1008 + 18 * t169) (MQ below (mQ G (pL (fun r μ' => μ' = μ ∧ Q r))) args s 299 1794 (Ah G)) (F0 m 169 ls []) := by
    intro  n
    induction n with
    | zero =>
      intro r0 x1 x3 t169 H locs ls hM hS hl h
      exact False.elim h
    | succ n ih =>
      intro r0 x1 x3 t169 H locs ls hM hS hl h
      have h : w_L_sum_b169 G μ Q  (w_L_sum_l169 G μ Q  n) r0 x1 x3 t169 := h
      unfold w_L_sum_b169 at h
      obtain ⟨ht169, h⟩ := h
      refine lv_iload_n S.1 S.2.1 dL_sum_169 rfl (lv_at hl 2 rfl) ?_
      refine mz_aload_n (x := r0) S.1 S.2.1 dL_sum_170 rfl (lv_at hl 0 rfl) ?_
      obtain ⟨a17, e18, h⟩ := h
      refine mz_o0 e18 ?_
      obtain ⟨k19, h⟩ := h
      refine mz_V S hG hM hS cf_9 k19 (As := []) (rest := [.int x3]) (c_X10_crowCount h) yf_X10_crowCount tw_1163 tw_1164 tw_1165 ⟨Nat.le_of_ble_eq_true rfl, Nat.le_of_ble_eq_true rfl⟩ ⟨(by show (168 + 3 * t169) + 0 ≤ 299; omega), (by show (1008 + 18 * t169) + 0 ≤ 1794; omega)⟩ rfl hl.1 rfl (Nat.le_of_ble_eq_true rfl) dL_sum_171 (fun v9 μ9 H locs hp hM hS => ?_)
      obtain ⟨u20, rfl, e9, h⟩ := hp
      rw [e9] at hM
      refine W.cs (cells' := 168 + 3 * t169) (slots' := 1008 + 18 * t169) (by first | omega | (dsimp only; omega)) (by first | omega | (dsimp only; omega)) ?_
      refine lv_icmp_ge (tgt := 207) S.1 S.2.1 dL_sum_174 (by decide) (fun c21 => ?_) (fun c21 => ?_)
      · have h := h.1 c21
        refine lv_iconst (v := (nI 0)) S.1 S.2.1 dL_sum_207 (by decide) ?_
        refine lv_istore_n (lv' := [(3, .int (nI 0)), (0, va_rf r0), (1, .long x1)]) S.1 S.2.1 dL_sum_208 rfl hl (by decide) rfl (fun ls hl => ?_)
        obtain ⟨n9, h⟩ := h
        refine W.widen (k := 180 + 7 * 0) (n := 1080 + 42 * 0) (by omega) (by omega) ?_
        exact hB209  n9 r0 x1 (nI 0) 0 H locs ls hM hS (lv_sub hl [1, 2, 0] rfl) h
      · have h := h.2 c21
        refine lv_ldc2 (v := 31) S.1 S.2.1 S.2.2.2.1 (S.2.2.2.2 _ tw_1107) dL_sum_177 ?_
        refine lv_lload_n S.1 S.2.1 dL_sum_180 rfl (lv_at hl 1 rfl) ?_
        refine lv_lmul S.1 S.2.1 dL_sum_181 ?_
        refine lv_ldc2 (v := 101) S.1 S.2.1 S.2.2.2.1 (S.2.2.2.2 _ tw_1122) dL_sum_182 ?_
        refine mz_aload_n (x := r0) S.1 S.2.1 dL_sum_185 rfl (lv_at hl 0 rfl) ?_
        refine lv_iload_n S.1 S.2.1 dL_sum_186 rfl (lv_at hl 2 rfl) ?_
        refine mz_SH S hG hM hS (As := [va_rf r0, .int x3]) (rest := [.long (101 : Int64), .long ((31 : Int64) * x1)]) (c_L_carriedMessage hl0 h) yh_L_carriedMessage tw_1167 tw_1168 ⟨Nat.le_of_ble_eq_true rfl, Nat.le_of_ble_eq_true rfl⟩ ⟨(by show (168 + 3 * t169) + 2 ≤ 299; omega), (by show (1008 + 18 * t169) + 12 ≤ 1794; omega)⟩ rfl hl.1 rfl (Nat.le_of_ble_eq_true rfl) dL_sum_187 (fun v9 μ9 H locs hp hM hS => ?_)
        obtain ⟨u33, rfl, e9, h⟩ := hp
        rw [e9] at hM
        refine W.cs (cells' := 170 + 3 * t169) (slots' := 1020 + 18 * t169) (by first | omega | (dsimp only; omega)) (by first | omega | (dsimp only; omega)) ?_
        refine lv_i2l S.1 S.2.1 dL_sum_190 rfl ?_
        refine lv_lmul S.1 S.2.1 dL_sum_191 ?_
        refine lv_ladd S.1 S.2.1 dL_sum_192 ?_
        refine mz_aload_n (x := r0) S.1 S.2.1 dL_sum_193 rfl (lv_at hl 0 rfl) ?_
        refine lv_iload_n S.1 S.2.1 dL_sum_194 rfl (lv_at hl 2 rfl) ?_
        refine mz_SH S hG hM hS (As := [va_rf r0, .int x3]) (rest := [.long (((31 : Int64) * x1) + ((101 : Int64) * u33.toInt64))]) (c_L_flightMinutes hl0 h) yh_L_flightMinutes tw_1184 tw_1185 ⟨Nat.le_of_ble_eq_true rfl, Nat.le_of_ble_eq_true rfl⟩ ⟨(by show (170 + 3 * t169) + 1 ≤ 299; omega), (by show (1020 + 18 * t169) + 6 ≤ 1794; omega)⟩ rfl hl.1 rfl (Nat.le_of_ble_eq_true rfl) dL_sum_195 (fun v9 μ9 H locs hp hM hS => ?_)
        obtain ⟨u34, rfl, e9, h⟩ := hp
        rw [e9] at hM
        refine W.cs (cells' := 171 + 3 * t169) (slots' := 1026 + 18 * t169) (by first | omega | (dsimp only; omega)) (by first | omega | (dsimp only; omega)) ?_
        refine lv_i2l S.1 S.2.1 dL_sum_198 rfl ?_
        refine lv_ladd S.1 S.2.1 dL_sum_199 ?_
        refine lv_lstore_n (i := 1) (lv' := [(1, .long ((((31 : Int64) * x1) + ((101 : Int64) * u33.toInt64)) + u34.toInt64)), (0, va_rf r0), (3, .int x3)]) S.1 S.2.1 dL_sum_200 rfl hl (by decide) (by simp [List.filter, mz_cat]) (fun ls hl => ?_)
        refine lv_iinc (v := (x3 + nI 1)) (lv' := [(3, .int (x3 + nI 1)), (1, .long ((((31 : Int64) * x1) + ((101 : Int64) * u33.toInt64)) + u34.toInt64)), (0, va_rf r0)]) S.1 S.2.1 dL_sum_201 hl (k := 2) rfl rfl (by decide) rfl (fun ls hl => ?_)
        refine lv_goto (tgt := 169) S.1 S.2.1 dL_sum_204 (by decide) ?_
        refine W.widen (k := 168 + 3 * (t169 + 1)) (n := 1008 + 18 * (t169 + 1)) (by omega) (by omega) ?_
        exact ih r0 ((((31 : Int64) * x1) + ((101 : Int64) * u33.toInt64)) + u34.toInt64) (x3 + nI 1) (t169 + 1) H locs ls hM hS (lv_sub hl [2, 1, 0] rfl) h
  have hB130 : ∀ (K82 : Option Nat → Int64 → Int32 → Nat → Prop) (kK82 : ∀ (r0 : Option Nat) (x1 : Int64) (x3 : Int32) (t82 : Nat) (H : Heap) (locs : List Loc) (ls : Array Slot), Mm G μ H → va_S (Ah G) s.heap H locs → lv_has ls 5 [(0, va_rf r0), (1, .long x1), (3, .int x3)] → K82 r0 x1 x3 t82 → W p l e { frames := 9, cells := 299, slots := 1794, locals := 168 } s m args below meth c H locs (0 + 28 * t82) (0 + 168 * t82) (MQ below (mQ G (pL (fun r μ' => μ' = μ ∧ Q r))) args s 299 1794 (Ah G)) (F0 m 82 ls [])) (n : Nat) (r0 : Option Nat) (x1 : Int64) (x3 : Int32) (x4 : Int32) (t82 : Nat) (t130 : Nat) (H : Heap) (locs : List Loc) (ls : Array Slot), Mm G μ H → va_S (Ah G) s.heap H locs → lv_has ls 5 [(0, va_rf r0), (1, .long x1), (3, .int x3), (4, .int x4)] → w_L_sum_l130 G μ Q K82 n r0 x1 x3 x4 t82 t130 → W p l e { frames := 9, cells := 299, slots := 1794, locals := 168 } s m args below meth c H locs (3 + 28 * t82 + 3 * t130) (18 + 168 * t82 + 18 * t130) (MQ below (mQ G (pL (fun r μ' => μ' = μ ∧ Q r))) args s 299 1794 (Ah G)) (F0 m 130 ls []) := by
    intro K82 kK82 n
    induction n with
    | zero =>
      intro r0 x1 x3 x4 t82 t130 H locs ls hM hS hl h
      exact False.elim h
    | succ n ih =>
      intro r0 x1 x3 x4 t82 t130 H locs ls hM hS hl h
      have h : w_L_sum_b130 G μ Q K82 (w_L_sum_l130 G μ Q K82 n) r0 x1 x3 x4 t82 t130 := h
      unfold w_L_sum_b130 at h
      obtain ⟨ht82, h⟩ := h
      obtain ⟨ht130, h⟩ := h
      refine lv_iload S.1 S.2.1 dL_sum_130 (lv_at hl 3 rfl) ?_
      refine mz_aload_n (x := r0) S.1 S.2.1 dL_sum_132 rfl (lv_at hl 0 rfl) ?_
      refine lv_iload_n S.1 S.2.1 dL_sum_133 rfl (lv_at hl 2 rfl) ?_
      refine mz_SH S hG hM hS (As := [va_rf r0, .int x3]) (rest := [.int x4]) (c_L_inboxSize hl0 h) yh_L_inboxSize tw_1149 tw_1150 ⟨Nat.le_of_ble_eq_true rfl, Nat.le_of_ble_eq_true rfl⟩ ⟨(by show (3 + 28 * t82 + 3 * t130) + 1 ≤ 299; omega), (by show (18 + 168 * t82 + 18 * t130) + 6 ≤ 1794; omega)⟩ rfl hl.1 rfl (Nat.le_of_ble_eq_true rfl) dL_sum_134 (fun v9 μ9 H locs hp hM hS => ?_)
      obtain ⟨u38, rfl, e9, h⟩ := hp
      rw [e9] at hM
      refine W.cs (cells' := 4 + 28 * t82 + 3 * t130) (slots' := 24 + 168 * t82 + 18 * t130) (by first | omega | (dsimp only; omega)) (by first | omega | (dsimp only; omega)) ?_
      refine lv_icmp_ge (tgt := 161) S.1 S.2.1 dL_sum_137 (by decide) (fun c39 => ?_) (fun c39 => ?_)
      · have h := h.1 c39
        refine lv_iinc (v := (x3 + nI 1)) (lv' := [(3, .int (x3 + nI 1)), (0, va_rf r0), (1, .long x1), (4, .int x4)]) S.1 S.2.1 dL_sum_161 hl (k := 2) rfl rfl (by decide) rfl (fun ls hl => ?_)
        refine lv_goto (tgt := 82) S.1 S.2.1 dL_sum_164 (by decide) ?_
        refine W.widen (k := 0 + 28 * (t82 + 1)) (n := 0 + 168 * (t82 + 1)) (by omega) (by omega) ?_
        exact kK82 r0 x1 (x3 + nI 1) (t82 + 1) H locs ls hM hS (lv_sub hl [1, 2, 0] rfl) h
      · have h := h.2 c39
        refine lv_ldc2 (v := 31) S.1 S.2.1 S.2.2.2.1 (S.2.2.2.2 _ tw_1107) dL_sum_140 ?_
        refine lv_lload_n S.1 S.2.1 dL_sum_143 rfl (lv_at hl 1 rfl) ?_
        refine lv_lmul S.1 S.2.1 dL_sum_144 ?_
        refine mz_aload_n (x := r0) S.1 S.2.1 dL_sum_145 rfl (lv_at hl 0 rfl) ?_
        refine lv_iload_n S.1 S.2.1 dL_sum_146 rfl (lv_at hl 2 rfl) ?_
        refine lv_iload S.1 S.2.1 dL_sum_147 (lv_at hl 3 rfl) ?_
        refine mz_SH S hG hM hS (As := [va_rf r0, .int x3, .int x4]) (rest := [.long ((31 : Int64) * x1)]) (c_L_inboxMessage hl0 h) yh_L_inboxMessage tw_1156 tw_1157 ⟨Nat.le_of_ble_eq_true rfl, Nat.le_of_ble_eq_true rfl⟩ ⟨(by show (4 + 28 * t82 + 3 * t130) + 2 ≤ 299; omega), (by show (24 + 168 * t82 + 18 * t130) + 12 ≤ 1794; omega)⟩ rfl hl.1 rfl (Nat.le_of_ble_eq_true rfl) dL_sum_149 (fun v9 μ9 H locs hp hM hS => ?_)
        obtain ⟨u40, rfl, e9, h⟩ := hp
        rw [e9] at hM
        refine W.cs (cells' := 6 + 28 * t82 + 3 * t130) (slots' := 36 + 168 * t82 + 18 * t130) (by first | omega | (dsimp only; omega)) (by first | omega | (dsimp only; omega)) ?_
        refine lv_i2l S.1 S.2.1 dL_sum_152 rfl ?_
        refine lv_ladd S.1 S.2.1 dL_sum_153 ?_
        refine lv_lstore_n (i := 1) (lv' := [(1, .long (((31 : Int64) * x1) + u40.toInt64)), (0, va_rf r0), (3, .int x3), (4, .int x4)]) S.1 S.2.1 dL_sum_154 rfl hl (by decide) (by simp [List.filter, mz_cat]) (fun ls hl => ?_)
        refine lv_iinc (v := (x4 + nI 1)) (lv' := [(4, .int (x4 + nI 1)), (1, .long (((31 : Int64) * x1) + u40.toInt64)), (0, va_rf r0), (3, .int x3)]) S.1 S.2.1 dL_sum_155 hl (k := 3) rfl rfl (by decide) rfl (fun ls hl => ?_)
        refine lv_goto (tgt := 130) S.1 S.2.1 dL_sum_158 (by decide) ?_
        refine W.widen (k := 3 + 28 * t82 + 3 * (t130 + 1)) (n := 18 + 168 * t82 + 18 * (t130 + 1)) (by omega) (by omega) ?_
        exact ih r0 (((31 : Int64) * x1) + u40.toInt64) x3 (x4 + nI 1) t82 (t130 + 1) H locs ls hM hS (lv_sub hl [2, 1, 3, 0] rfl) h
  have hB82 : ∀ (n : Nat) (r0 : Option Nat) (x1 : Int64) (x3 : Int32) (t82 : Nat) (H : Heap) (locs : List Loc) (ls : Array Slot), Mm G μ H → va_S (Ah G) s.heap H locs → lv_has ls 5 [(0, va_rf r0), (1, .long x1), (3, .int x3)] → w_L_sum_l82 G μ Q  n r0 x1 x3 t82 → W p l e { frames := 9, cells := 299, slots := 1794, locals := 168 } s m args below meth c H locs (0 + 28 * t82) (0 + 168 * t82) (MQ below (mQ G (pL (fun r μ' => μ' = μ ∧ Q r))) args s 299 1794 (Ah G)) (F0 m 82 ls []) := by
    intro  n
    induction n with
    | zero =>
      intro r0 x1 x3 t82 H locs ls hM hS hl h
      exact False.elim h
    | succ n ih =>
      intro r0 x1 x3 t82 H locs ls hM hS hl h
      have h : w_L_sum_b82 G μ Q  (w_L_sum_l82 G μ Q  n) r0 x1 x3 t82 := h
      unfold w_L_sum_b82 at h
      obtain ⟨ht82, h⟩ := h
      refine lv_iload_n S.1 S.2.1 dL_sum_82 rfl (lv_at hl 2 rfl) ?_
      refine mz_aload_n (x := r0) S.1 S.2.1 dL_sum_83 rfl (lv_at hl 0 rfl) ?_
      obtain ⟨a12, e13, h⟩ := h
      refine mz_o0 e13 ?_
      obtain ⟨k14, h⟩ := h
      refine mz_V S hG hM hS cf_9 k14 (As := []) (rest := [.int x3]) (c_X10_nestCount h) yf_X10_nestCount tw_627 tw_628 tw_629 ⟨Nat.le_of_ble_eq_true rfl, Nat.le_of_ble_eq_true rfl⟩ ⟨(by show (0 + 28 * t82) + 0 ≤ 299; omega), (by show (0 + 168 * t82) + 0 ≤ 1794; omega)⟩ rfl hl.1 rfl (Nat.le_of_ble_eq_true rfl) dL_sum_84 (fun v9 μ9 H locs hp hM hS => ?_)
      obtain ⟨u15, rfl, e9, h⟩ := hp
      rw [e9] at hM
      refine W.cs (cells' := 0 + 28 * t82) (slots' := 0 + 168 * t82) (by first | omega | (dsimp only; omega)) (by first | omega | (dsimp only; omega)) ?_
      refine lv_icmp_ge (tgt := 167) S.1 S.2.1 dL_sum_87 (by decide) (fun c16 => ?_) (fun c16 => ?_)
      · have h := h.1 c16
        refine lv_iconst (v := (nI 0)) S.1 S.2.1 dL_sum_167 (by decide) ?_
        refine lv_istore_n (lv' := [(3, .int (nI 0)), (0, va_rf r0), (1, .long x1)]) S.1 S.2.1 dL_sum_168 rfl hl (by decide) rfl (fun ls hl => ?_)
        obtain ⟨n9, h⟩ := h
        refine W.widen (k := 168 + 3 * 0) (n := 1008 + 18 * 0) (by omega) (by omega) ?_
        exact hB169  n9 r0 x1 (nI 0) 0 H locs ls hM hS (lv_sub hl [1, 2, 0] rfl) h
      · have h := h.2 c16
        refine lv_ldc2 (v := 31) S.1 S.2.1 S.2.2.2.1 (S.2.2.2.2 _ tw_1107) dL_sum_90 ?_
        refine lv_lload_n S.1 S.2.1 dL_sum_93 rfl (lv_at hl 1 rfl) ?_
        refine lv_lmul S.1 S.2.1 dL_sum_94 ?_
        refine lv_ldc2 (v := 101) S.1 S.2.1 S.2.2.2.1 (S.2.2.2.2 _ tw_1122) dL_sum_95 ?_
        refine mz_aload_n (x := r0) S.1 S.2.1 dL_sum_98 rfl (lv_at hl 0 rfl) ?_
        refine lv_iload_n S.1 S.2.1 dL_sum_99 rfl (lv_at hl 2 rfl) ?_
        refine mz_SH S hG hM hS (As := [va_rf r0, .int x3]) (rest := [.long (101 : Int64), .long ((31 : Int64) * x1)]) (c_L_distance hl0 h) yh_L_distance tw_1123 tw_1124 ⟨Nat.le_of_ble_eq_true rfl, Nat.le_of_ble_eq_true rfl⟩ ⟨(by show (0 + 28 * t82) + 1 ≤ 299; omega), (by show (0 + 168 * t82) + 6 ≤ 1794; omega)⟩ rfl hl.1 rfl (Nat.le_of_ble_eq_true rfl) dL_sum_100 (fun v9 μ9 H locs hp hM hS => ?_)
        obtain ⟨u35, rfl, e9, h⟩ := hp
        rw [e9] at hM
        refine W.cs (cells' := 1 + 28 * t82) (slots' := 6 + 168 * t82) (by first | omega | (dsimp only; omega)) (by first | omega | (dsimp only; omega)) ?_
        refine lv_i2l S.1 S.2.1 dL_sum_103 rfl ?_
        refine lv_lmul S.1 S.2.1 dL_sum_104 ?_
        refine lv_ladd S.1 S.2.1 dL_sum_105 ?_
        refine mz_aload_n (x := r0) S.1 S.2.1 dL_sum_106 rfl (lv_at hl 0 rfl) ?_
        refine lv_iload_n S.1 S.2.1 dL_sum_107 rfl (lv_at hl 2 rfl) ?_
        refine mz_SH S hG hM hS (As := [va_rf r0, .int x3]) (rest := [.long (((31 : Int64) * x1) + ((101 : Int64) * u35.toInt64))]) (c_L_loss hl0 h) yh_L_loss tw_1135 tw_1136 ⟨Nat.le_of_ble_eq_true rfl, Nat.le_of_ble_eq_true rfl⟩ ⟨(by show (1 + 28 * t82) + 1 ≤ 299; omega), (by show (6 + 168 * t82) + 6 ≤ 1794; omega)⟩ rfl hl.1 rfl (Nat.le_of_ble_eq_true rfl) dL_sum_108 (fun v9 μ9 H locs hp hM hS => ?_)
        obtain ⟨u36, rfl, e9, h⟩ := hp
        rw [e9] at hM
        refine W.cs (cells' := 2 + 28 * t82) (slots' := 12 + 168 * t82) (by first | omega | (dsimp only; omega)) (by first | omega | (dsimp only; omega)) ?_
        refine lv_i2l S.1 S.2.1 dL_sum_111 rfl ?_
        refine lv_ladd S.1 S.2.1 dL_sum_112 ?_
        refine lv_lstore_n (i := 1) (lv' := [(1, .long ((((31 : Int64) * x1) + ((101 : Int64) * u35.toInt64)) + u36.toInt64)), (0, va_rf r0), (3, .int x3)]) S.1 S.2.1 dL_sum_113 rfl hl (by decide) (by simp [List.filter, mz_cat]) (fun ls hl => ?_)
        refine lv_ldc2 (v := 31) S.1 S.2.1 S.2.2.2.1 (S.2.2.2.2 _ tw_1107) dL_sum_114 ?_
        refine lv_lload_n S.1 S.2.1 dL_sum_117 rfl (lv_at hl 0 rfl) ?_
        refine lv_lmul S.1 S.2.1 dL_sum_118 ?_
        refine mz_aload_n (x := r0) S.1 S.2.1 dL_sum_119 rfl (lv_at hl 1 rfl) ?_
        refine lv_iload_n S.1 S.2.1 dL_sum_120 rfl (lv_at hl 2 rfl) ?_
        refine mz_SH S hG hM hS (As := [va_rf r0, .int x3]) (rest := [.long ((31 : Int64) * ((((31 : Int64) * x1) + ((101 : Int64) * u35.toInt64)) + u36.toInt64))]) (c_L_rememberedCount hl0 h) yh_L_rememberedCount tw_1142 tw_1143 ⟨Nat.le_of_ble_eq_true rfl, Nat.le_of_ble_eq_true rfl⟩ ⟨(by show (2 + 28 * t82) + 1 ≤ 299; omega), (by show (12 + 168 * t82) + 6 ≤ 1794; omega)⟩ rfl hl.1 rfl (Nat.le_of_ble_eq_true rfl) dL_sum_121 (fun v9 μ9 H locs hp hM hS => ?_)
        obtain ⟨u37, rfl, e9, h⟩ := hp
        rw [e9] at hM
        refine W.cs (cells' := 3 + 28 * t82) (slots' := 18 + 168 * t82) (by first | omega | (dsimp only; omega)) (by first | omega | (dsimp only; omega)) ?_
        refine lv_i2l S.1 S.2.1 dL_sum_124 rfl ?_
        refine lv_ladd S.1 S.2.1 dL_sum_125 ?_
        refine lv_lstore_n (i := 1) (lv' := [(1, .long (((31 : Int64) * ((((31 : Int64) * x1) + ((101 : Int64) * u35.toInt64)) + u36.toInt64)) + u37.toInt64)), (0, va_rf r0), (3, .int x3)]) S.1 S.2.1 dL_sum_126 rfl hl (by decide) (by simp [List.filter, mz_cat]) (fun ls hl => ?_)
        refine lv_iconst (v := (nI 0)) S.1 S.2.1 dL_sum_127 (by decide) ?_
        refine lv_istore (lv' := [(4, .int (nI 0)), (1, .long (((31 : Int64) * ((((31 : Int64) * x1) + ((101 : Int64) * u35.toInt64)) + u36.toInt64)) + u37.toInt64)), (0, va_rf r0), (3, .int x3)]) S.1 S.2.1 dL_sum_128 hl (by decide) rfl (fun ls hl => ?_)
        obtain ⟨n9, h⟩ := h
        refine W.widen (k := 3 + 28 * t82 + 3 * 0) (n := 18 + 168 * t82 + 18 * 0) (by omega) (by omega) ?_
        exact hB130 (w_L_sum_l82 G μ Q  n) ih n9 r0 (((31 : Int64) * ((((31 : Int64) * x1) + ((101 : Int64) * u35.toInt64)) + u36.toInt64)) + u37.toInt64) x3 (nI 0) t82 0 H locs ls hM hS (lv_sub hl [2, 1, 3, 0] rfl) h
  intro H locs ls hM hS hl
  have hl : lv_has ls 5 [(0, va_rf r0)] := by simpa [lv_args, mz_cat, mz_cr, mz_ci, mz_cl, mz_cf, mz_cd, mz_cn] using hl
  unfold w_L_sum at h
  refine lv_ldc2 (v := 31) S.1 S.2.1 S.2.2.2.1 (S.2.2.2.2 _ tw_1107) dL_sum_0 ?_
  refine mz_aload_n (x := r0) S.1 S.2.1 dL_sum_3 rfl (lv_at hl 0 rfl) ?_
  obtain ⟨a1, e2, h⟩ := h
  refine mz_o0 e2 ?_
  obtain ⟨k3, h⟩ := h
  refine mz_V S hG hM hS cf_9 k3 (As := []) (rest := [.long (31 : Int64)]) (c_X10_time h) yf_X10_time tw_378 tw_379 tw_380 ⟨Nat.le_of_ble_eq_true rfl, Nat.le_of_ble_eq_true rfl⟩ ⟨(Nat.le_of_ble_eq_true rfl), (Nat.le_of_ble_eq_true rfl)⟩ rfl hl.1 rfl (Nat.le_of_ble_eq_true rfl) dL_sum_4 (fun v9 μ9 H locs hp hM hS => ?_)
  obtain ⟨u4, rfl, e9, h⟩ := hp
  rw [e9] at hM
  refine W.cs (cells' := 0) (slots' := 0) rfl rfl ?_
  refine lv_i2l S.1 S.2.1 dL_sum_7 rfl ?_
  refine lv_lmul S.1 S.2.1 dL_sum_8 ?_
  refine mz_aload_n (x := r0) S.1 S.2.1 dL_sum_9 rfl (lv_at hl 0 rfl) ?_
  refine mz_o0 e2 ?_
  refine mz_V S hG hM hS cf_9 k3 (As := []) (rest := [.long ((31 : Int64) * u4.toInt64)]) (c_X10_wind h) yf_X10_wind tw_1108 tw_1109 tw_1110 ⟨Nat.le_of_ble_eq_true rfl, Nat.le_of_ble_eq_true rfl⟩ ⟨(Nat.le_of_ble_eq_true rfl), (Nat.le_of_ble_eq_true rfl)⟩ rfl hl.1 rfl (Nat.le_of_ble_eq_true rfl) dL_sum_10 (fun v9 μ9 H locs hp hM hS => ?_)
  obtain ⟨u5, rfl, e9, h⟩ := hp
  rw [e9] at hM
  refine W.cs (cells' := 0) (slots' := 0) rfl rfl ?_
  refine lv_i2l S.1 S.2.1 dL_sum_13 rfl ?_
  refine lv_ladd S.1 S.2.1 dL_sum_14 ?_
  refine lv_lstore_n (i := 1) (lv' := [(1, .long (((31 : Int64) * u4.toInt64) + u5.toInt64)), (0, va_rf r0)]) S.1 S.2.1 dL_sum_15 rfl hl (by decide) (by simp [List.filter, mz_cat]) (fun ls hl => ?_)
  refine lv_ldc2 (v := 31) S.1 S.2.1 S.2.2.2.1 (S.2.2.2.2 _ tw_1107) dL_sum_16 ?_
  refine lv_lload_n S.1 S.2.1 dL_sum_19 rfl (lv_at hl 0 rfl) ?_
  refine lv_lmul S.1 S.2.1 dL_sum_20 ?_
  refine lv_ldc2 (v := 100003) S.1 S.2.1 S.2.2.2.1 (S.2.2.2.2 _ tw_1112) dL_sum_21 ?_
  refine mz_aload_n (x := r0) S.1 S.2.1 dL_sum_24 rfl (lv_at hl 1 rfl) ?_
  refine mz_o0 e2 ?_
  refine mz_V S hG hM hS cf_9 k3 (As := []) (rest := [.long (100003 : Int64), .long ((31 : Int64) * (((31 : Int64) * u4.toInt64) + u5.toInt64))]) (c_X10_publishedTotal h) yf_X10_publishedTotal tw_1113 tw_1114 tw_1115 ⟨Nat.le_of_ble_eq_true rfl, Nat.le_of_ble_eq_true rfl⟩ ⟨(Nat.le_of_ble_eq_true rfl), (Nat.le_of_ble_eq_true rfl)⟩ rfl hl.1 rfl (Nat.le_of_ble_eq_true rfl) dL_sum_25 (fun v9 μ9 H locs hp hM hS => ?_)
  obtain ⟨u6, rfl, e9, h⟩ := hp
  rw [e9] at hM
  refine W.cs (cells' := 0) (slots' := 0) rfl rfl ?_
  refine lv_i2l S.1 S.2.1 dL_sum_28 rfl ?_
  refine lv_lmul S.1 S.2.1 dL_sum_29 ?_
  refine lv_ladd S.1 S.2.1 dL_sum_30 ?_
  refine lv_ldc2 (v := 1009) S.1 S.2.1 S.2.2.2.1 (S.2.2.2.2 _ tw_1117) dL_sum_31 ?_
  refine mz_aload_n (x := r0) S.1 S.2.1 dL_sum_34 rfl (lv_at hl 1 rfl) ?_
  refine mz_o0 e2 ?_
  refine mz_V S hG hM hS cf_9 k3 (As := []) (rest := [.long (1009 : Int64), .long (((31 : Int64) * (((31 : Int64) * u4.toInt64) + u5.toInt64)) + ((100003 : Int64) * u6.toInt64))]) (c_X10_readTotal h) yf_X10_readTotal tw_1118 tw_1119 tw_1120 ⟨Nat.le_of_ble_eq_true rfl, Nat.le_of_ble_eq_true rfl⟩ ⟨(Nat.le_of_ble_eq_true rfl), (Nat.le_of_ble_eq_true rfl)⟩ rfl hl.1 rfl (Nat.le_of_ble_eq_true rfl) dL_sum_35 (fun v9 μ9 H locs hp hM hS => ?_)
  obtain ⟨u7, rfl, e9, h⟩ := hp
  rw [e9] at hM
  refine W.cs (cells' := 0) (slots' := 0) rfl rfl ?_
  refine lv_i2l S.1 S.2.1 dL_sum_38 rfl ?_
  refine lv_lmul S.1 S.2.1 dL_sum_39 ?_
  refine lv_ladd S.1 S.2.1 dL_sum_40 ?_
  refine lv_ldc2 (v := 101) S.1 S.2.1 S.2.2.2.1 (S.2.2.2.2 _ tw_1122) dL_sum_41 ?_
  refine mz_aload_n (x := r0) S.1 S.2.1 dL_sum_44 rfl (lv_at hl 1 rfl) ?_
  refine mz_o0 e2 ?_
  refine mz_V S hG hM hS cf_9 k3 (As := []) (rest := [.long (101 : Int64), .long ((((31 : Int64) * (((31 : Int64) * u4.toInt64) + u5.toInt64)) + ((100003 : Int64) * u6.toInt64)) + ((1009 : Int64) * u7.toInt64))]) (c_X10_duplicateTotal h) yf_X10_duplicateTotal tw_386 tw_387 tw_388 ⟨Nat.le_of_ble_eq_true rfl, Nat.le_of_ble_eq_true rfl⟩ ⟨(Nat.le_of_ble_eq_true rfl), (Nat.le_of_ble_eq_true rfl)⟩ rfl hl.1 rfl (Nat.le_of_ble_eq_true rfl) dL_sum_45 (fun v9 μ9 H locs hp hM hS => ?_)
  obtain ⟨u8, rfl, e9, h⟩ := hp
  rw [e9] at hM
  refine W.cs (cells' := 0) (slots' := 0) rfl rfl ?_
  refine lv_i2l S.1 S.2.1 dL_sum_48 rfl ?_
  refine lv_lmul S.1 S.2.1 dL_sum_49 ?_
  refine lv_ladd S.1 S.2.1 dL_sum_50 ?_
  refine mz_aload_n (x := r0) S.1 S.2.1 dL_sum_51 rfl (lv_at hl 1 rfl) ?_
  refine mz_o0 e2 ?_
  refine mz_V S hG hM hS cf_9 k3 (As := []) (rest := [.long (((((31 : Int64) * (((31 : Int64) * u4.toInt64) + u5.toInt64)) + ((100003 : Int64) * u6.toInt64)) + ((1009 : Int64) * u7.toInt64)) + ((101 : Int64) * u8.toInt64))]) (c_X10_failedTotal h) yf_X10_failedTotal tw_390 tw_391 tw_392 ⟨Nat.le_of_ble_eq_true rfl, Nat.le_of_ble_eq_true rfl⟩ ⟨(Nat.le_of_ble_eq_true rfl), (Nat.le_of_ble_eq_true rfl)⟩ rfl hl.1 rfl (Nat.le_of_ble_eq_true rfl) dL_sum_52 (fun v9 μ9 H locs hp hM hS => ?_)
  obtain ⟨u9, rfl, e9, h⟩ := hp
  rw [e9] at hM
  refine W.cs (cells' := 0) (slots' := 0) rfl rfl ?_
  refine lv_i2l S.1 S.2.1 dL_sum_55 rfl ?_
  refine lv_ladd S.1 S.2.1 dL_sum_56 ?_
  refine lv_lstore_n (i := 1) (lv' := [(1, .long ((((((31 : Int64) * (((31 : Int64) * u4.toInt64) + u5.toInt64)) + ((100003 : Int64) * u6.toInt64)) + ((1009 : Int64) * u7.toInt64)) + ((101 : Int64) * u8.toInt64)) + u9.toInt64)), (0, va_rf r0)]) S.1 S.2.1 dL_sum_57 rfl hl (by decide) (by simp [List.filter, mz_cat]) (fun ls hl => ?_)
  refine lv_ldc2 (v := 31) S.1 S.2.1 S.2.2.2.1 (S.2.2.2.2 _ tw_1107) dL_sum_58 ?_
  refine lv_lload_n S.1 S.2.1 dL_sum_61 rfl (lv_at hl 0 rfl) ?_
  refine lv_lmul S.1 S.2.1 dL_sum_62 ?_
  refine lv_ldc2 (v := 101) S.1 S.2.1 S.2.2.2.1 (S.2.2.2.2 _ tw_1122) dL_sum_63 ?_
  refine mz_aload_n (x := r0) S.1 S.2.1 dL_sum_66 rfl (lv_at hl 1 rfl) ?_
  refine mz_o0 e2 ?_
  refine mz_V S hG hM hS cf_9 k3 (As := []) (rest := [.long (101 : Int64), .long ((31 : Int64) * ((((((31 : Int64) * (((31 : Int64) * u4.toInt64) + u5.toInt64)) + ((100003 : Int64) * u6.toInt64)) + ((1009 : Int64) * u7.toInt64)) + ((101 : Int64) * u8.toInt64)) + u9.toInt64))]) (c_X10_deliveredTotal h) yf_X10_deliveredTotal tw_382 tw_383 tw_384 ⟨Nat.le_of_ble_eq_true rfl, Nat.le_of_ble_eq_true rfl⟩ ⟨(Nat.le_of_ble_eq_true rfl), (Nat.le_of_ble_eq_true rfl)⟩ rfl hl.1 rfl (Nat.le_of_ble_eq_true rfl) dL_sum_67 (fun v9 μ9 H locs hp hM hS => ?_)
  obtain ⟨u10, rfl, e9, h⟩ := hp
  rw [e9] at hM
  refine W.cs (cells' := 0) (slots' := 0) rfl rfl ?_
  refine lv_i2l S.1 S.2.1 dL_sum_70 rfl ?_
  refine lv_lmul S.1 S.2.1 dL_sum_71 ?_
  refine lv_ladd S.1 S.2.1 dL_sum_72 ?_
  refine mz_aload_n (x := r0) S.1 S.2.1 dL_sum_73 rfl (lv_at hl 1 rfl) ?_
  refine mz_o0 e2 ?_
  refine mz_V S hG hM hS cf_9 k3 (As := []) (rest := [.long (((31 : Int64) * ((((((31 : Int64) * (((31 : Int64) * u4.toInt64) + u5.toInt64)) + ((100003 : Int64) * u6.toInt64)) + ((1009 : Int64) * u7.toInt64)) + ((101 : Int64) * u8.toInt64)) + u9.toInt64)) + ((101 : Int64) * u10.toInt64))]) (c_X10_arrivalTotal h) yf_X10_arrivalTotal tw_394 tw_395 tw_396 ⟨Nat.le_of_ble_eq_true rfl, Nat.le_of_ble_eq_true rfl⟩ ⟨(Nat.le_of_ble_eq_true rfl), (Nat.le_of_ble_eq_true rfl)⟩ rfl hl.1 rfl (Nat.le_of_ble_eq_true rfl) dL_sum_74 (fun v9 μ9 H locs hp hM hS => ?_)
  obtain ⟨u11, rfl, e9, h⟩ := hp
  rw [e9] at hM
  refine W.cs (cells' := 0) (slots' := 0) rfl rfl ?_
  refine lv_i2l S.1 S.2.1 dL_sum_77 rfl ?_
  refine lv_ladd S.1 S.2.1 dL_sum_78 ?_
  refine lv_lstore_n (i := 1) (lv' := [(1, .long ((((31 : Int64) * ((((((31 : Int64) * (((31 : Int64) * u4.toInt64) + u5.toInt64)) + ((100003 : Int64) * u6.toInt64)) + ((1009 : Int64) * u7.toInt64)) + ((101 : Int64) * u8.toInt64)) + u9.toInt64)) + ((101 : Int64) * u10.toInt64)) + u11.toInt64)), (0, va_rf r0)]) S.1 S.2.1 dL_sum_79 rfl hl (by decide) (by simp [List.filter, mz_cat]) (fun ls hl => ?_)
  refine lv_iconst (v := (nI 0)) S.1 S.2.1 dL_sum_80 (by decide) ?_
  refine lv_istore_n (lv' := [(3, .int (nI 0)), (1, .long ((((31 : Int64) * ((((((31 : Int64) * (((31 : Int64) * u4.toInt64) + u5.toInt64)) + ((100003 : Int64) * u6.toInt64)) + ((1009 : Int64) * u7.toInt64)) + ((101 : Int64) * u8.toInt64)) + u9.toInt64)) + ((101 : Int64) * u10.toInt64)) + u11.toInt64)), (0, va_rf r0)]) S.1 S.2.1 dL_sum_81 rfl hl (by decide) rfl (fun ls hl => ?_)
  obtain ⟨n9, h⟩ := h
  refine W.widen (k := 0 + 28 * 0) (n := 0 + 168 * 0) (by omega) (by omega) ?_
  exact hB82  n9 r0 ((((31 : Int64) * ((((((31 : Int64) * (((31 : Int64) * u4.toInt64) + u5.toInt64)) + ((100003 : Int64) * u6.toInt64)) + ((1009 : Int64) * u7.toInt64)) + ((101 : Int64) * u8.toInt64)) + u9.toInt64)) + ((101 : Int64) * u10.toInt64)) + u11.toInt64) (nI 0) 0 H locs ls hM hS (lv_sub hl [2, 1, 0] rfl) h
set_option maxRecDepth 100000 in
set_option maxHeartbeats 4000000 in
theorem c_L_isKept {l : Launch} {G : mgT} {μ : mmT} {r0 : Option Nat} {r1 : Option Nat} {x2 : Int32} {Q : Int32 → mmT → Prop} (hl0 : l.stackTraces = false) (h : w_L_isKept G μ r0 r1 x2 Q) : MC G l yL_isKept cL_isKept 6 (some .boolean) { frames := 10, cells := 2702, slots := 16212, locals := 192 } [va_rf r0, va_rf r1, .int x2] μ (pI Q) := by
  refine mz_MC (by decide +kernel) (by simp [lg_sl, mz_cat, mz_cr, mz_ci, mz_cl, mz_cf, mz_cd, mz_cn]) (fun p e s m args below meth c S hG hr hlk hnm => ?_)
  have hB97 : ∀ (s0 : Int32) (μ : mmT) (H : Heap) (locs : List Loc) (ls : Array Slot), Mm G μ H → va_S (Ah G) s.heap H locs → lv_has ls 6 [] → w_L_isKept_b97 G Q  s0 μ → W p l e { frames := 10, cells := 2702, slots := 16212, locals := 192 } s m args below meth c H locs (2702) (16212) (MQ below (mQ G (pI Q)) args s 2702 16212 (Ah G)) (F0 m 97 ls [.int s0]) := by
    intro  s0 μ H locs ls hM hS hl h
    unfold w_L_isKept_b97 at h
    obtain ⟨f10, h⟩ := h
    exact mz_iret S hr hlk hM hS (mz_nZ f10) (Nat.le_of_ble_eq_true rfl) (Nat.le_of_ble_eq_true rfl) dL_isKept_97 ⟨_, rfl, h⟩
  have hB96 : ∀ (μ : mmT) (H : Heap) (locs : List Loc) (ls : Array Slot), Mm G μ H → va_S (Ah G) s.heap H locs → lv_has ls 6 [] → w_L_isKept_b96 G Q  μ → W p l e { frames := 10, cells := 2702, slots := 16212, locals := 192 } s m args below meth c H locs (2702) (16212) (MQ below (mQ G (pI Q)) args s 2702 16212 (Ah G)) (F0 m 96 ls []) := by
    intro  μ H locs ls hM hS hl h
    unfold w_L_isKept_b96 at h
    refine lv_iconst (v := (nI 0)) S.1 S.2.1 dL_isKept_96 (by decide) ?_
    refine W.widen (k := 2702) (n := 16212) (by omega) (by omega) ?_
    exact hB97  (nI 0) μ H locs ls hM hS (lv_sub hl [] rfl) h
  have hB47 : ∀ (μ : mmT) (H : Heap) (locs : List Loc) (ls : Array Slot), Mm G μ H → va_S (Ah G) s.heap H locs → lv_has ls 6 [] → w_L_isKept_b47 G Q  μ → W p l e { frames := 10, cells := 2702, slots := 16212, locals := 192 } s m args below meth c H locs (2700) (16200) (MQ below (mQ G (pI Q)) args s 2702 16212 (Ah G)) (F0 m 47 ls []) := by
    intro  μ H locs ls hM hS hl h
    unfold w_L_isKept_b47 at h
    refine lv_iconst (v := (nI 0)) S.1 S.2.1 dL_isKept_47 (by decide) ?_
    exact mz_iret S hr hlk hM hS rfl (Nat.le_of_ble_eq_true rfl) (Nat.le_of_ble_eq_true rfl) dL_isKept_48 ⟨_, rfl, h⟩
  have hB18 : ∀ (n : Nat) (r0 : Option Nat) (r1 : Option Nat) (x2 : Int32) (x3 : Int32) (x4 : Int32) (x5 : Int32) (t18 : Nat) (μ : mmT) (H : Heap) (locs : List Loc) (ls : Array Slot), Mm G μ H → va_S (Ah G) s.heap H locs → lv_has ls 6 [(0, va_rf r0), (1, va_rf r1), (2, .int x2), (3, .int x3), (4, .int x4), (5, .int x5)] → w_L_isKept_l18 G Q  n r0 r1 x2 x3 x4 x5 t18 μ → W p l e { frames := 10, cells := 2702, slots := 16212, locals := 192 } s m args below meth c H locs (0 + 300 * t18) (0 + 1800 * t18) (MQ below (mQ G (pI Q)) args s 2702 16212 (Ah G)) (F0 m 18 ls []) := by
    intro  n
    induction n with
    | zero =>
      intro r0 r1 x2 x3 x4 x5 t18 μ H locs ls hM hS hl h
      exact False.elim h
    | succ n ih =>
      intro r0 r1 x2 x3 x4 x5 t18 μ H locs ls hM hS hl h
      have h : w_L_isKept_b18 G Q  (w_L_isKept_l18 G Q  n) r0 r1 x2 x3 x4 x5 t18 μ := h
      unfold w_L_isKept_b18 at h
      obtain ⟨ht18, h⟩ := h
      refine lv_iload S.1 S.2.1 dL_isKept_18 (lv_at hl 4 rfl) ?_
      refine lv_if_le (tgt := 55) S.1 S.2.1 dL_isKept_20 (by decide) (fun c6 => ?_) (fun c6 => ?_)
      · have h := h.1 c6
        refine mz_aload_n (x := r0) S.1 S.2.1 dL_isKept_55 rfl (lv_at hl 0 rfl) ?_
        refine mz_SH S hG hM hS (As := [va_rf r0]) (rest := []) (c_L_undo hl0 h) yh_L_undo tw_1408 tw_1409 ⟨Nat.le_of_ble_eq_true rfl, Nat.le_of_ble_eq_true rfl⟩ ⟨(by show (0 + 300 * t18) + 1 ≤ 2702; omega), (by show (0 + 1800 * t18) + 6 ≤ 16212; omega)⟩ rfl hl.1 rfl (Nat.le_of_ble_eq_true rfl) dL_isKept_56 (fun v9 μ8 H locs hp hM hS => ?_)
        obtain ⟨u7, rfl, h⟩ := hp
        refine W.cs (cells' := 1 + 300 * t18) (slots' := 6 + 1800 * t18) (by first | omega | (dsimp only; omega)) (by first | omega | (dsimp only; omega)) ?_
        refine lv_bipush (v := (-75)) S.1 S.2.1 dL_isKept_59 (by decide) ?_
        refine lv_icmp_ne (tgt := 96) S.1 S.2.1 dL_isKept_61 (by decide) (fun c9 => ?_) (fun c9 => ?_)
        · have h := h.1 c9
          refine W.widen (k := 2702) (n := 16212) (by omega) (by omega) ?_
          exact hB96  μ8 H locs ls hM hS (lv_sub hl [] rfl) h
        · have h := h.2 c9
          refine mz_aload_n (x := r0) S.1 S.2.1 dL_isKept_64 rfl (lv_at hl 0 rfl) ?_
          refine mz_SH S hG hM hS (As := [va_rf r0]) (rest := []) (c_L_restore hl0 h) yh_L_restore tw_1420 tw_1421 ⟨Nat.le_of_ble_eq_true rfl, Nat.le_of_ble_eq_true rfl⟩ ⟨(by show (1 + 300 * t18) + 1 ≤ 2702; omega), (by show (6 + 1800 * t18) + 6 ≤ 16212; omega)⟩ rfl hl.1 rfl (Nat.le_of_ble_eq_true rfl) dL_isKept_65 (fun v9 μ12 H locs hp hM hS => ?_)
          obtain ⟨u11, rfl, h⟩ := hp
          refine W.cs (cells' := 2 + 300 * t18) (slots' := 12 + 1800 * t18) (by first | omega | (dsimp only; omega)) (by first | omega | (dsimp only; omega)) ?_
          refine lv_iload_n S.1 S.2.1 dL_isKept_68 rfl (lv_at hl 3 rfl) ?_
          refine lv_icmp_ne (tgt := 96) S.1 S.2.1 dL_isKept_69 (by decide) (fun c13 => ?_) (fun c13 => ?_)
          · have h := h.1 c13
            refine W.widen (k := 2702) (n := 16212) (by omega) (by omega) ?_
            exact hB96  μ12 H locs ls hM hS (lv_sub hl [] rfl) h
          · have h := h.2 c13
            refine mz_aload_n (x := r0) S.1 S.2.1 dL_isKept_72 rfl (lv_at hl 0 rfl) ?_
            refine mz_S S hG hM hS (As := [va_rf r0]) (rest := []) (c_L_sum hl0 h) yf_L_sum tw_1104 tw_1105 ⟨Nat.le_of_ble_eq_true rfl, Nat.le_of_ble_eq_true rfl⟩ ⟨(by show (2 + 300 * t18) + 299 ≤ 2702; omega), (by show (12 + 1800 * t18) + 1794 ≤ 16212; omega)⟩ rfl hl.1 rfl (Nat.le_of_ble_eq_true rfl) dL_isKept_73 (fun v9 μ9 H locs hp hM hS => ?_)
            obtain ⟨u14, rfl, e9, h⟩ := hp
            rw [e9] at hM
            refine W.cs (cells' := 301 + 300 * t18) (slots' := 1806 + 1800 * t18) (by first | omega | (dsimp only; omega)) (by first | omega | (dsimp only; omega)) ?_
            refine mz_aload_n (x := r1) S.1 S.2.1 dL_isKept_76 rfl (lv_at hl 1 rfl) ?_
            refine lv_iload_n S.1 S.2.1 dL_isKept_77 rfl (lv_at hl 2 rfl) ?_
            obtain ⟨a15, e16, h⟩ := h
            refine mz_o1 e16 ?_
            obtain ⟨k17, h⟩ := h
            obtain ⟨b18, h⟩ := h
            refine mz_lald S hG hM dL_isKept_78 k17 b18 ?_
            refine W.lcmp S.1 S.2.1 dL_isKept_79 ?_
            refine lv_if_ne (tgt := 96) S.1 S.2.1 dL_isKept_80 (by decide) (fun c19 => ?_) (fun c19 => ?_)
            · have h := h.1 c19
              refine W.widen (k := 2702) (n := 16212) (by omega) (by omega) ?_
              exact hB96  μ12 H locs ls hM hS (lv_sub hl [] rfl) h
            · have h := h.2 c19
              refine mz_aload_n (x := r0) S.1 S.2.1 dL_isKept_83 rfl (lv_at hl 0 rfl) ?_
              refine mz_SH S hG hM hS (As := [va_rf r0]) (rest := []) (c_L_undo hl0 h) yh_L_undo tw_1408 tw_1409 ⟨Nat.le_of_ble_eq_true rfl, Nat.le_of_ble_eq_true rfl⟩ ⟨(by show (301 + 300 * t18) + 1 ≤ 2702; omega), (by show (1806 + 1800 * t18) + 6 ≤ 16212; omega)⟩ rfl hl.1 rfl (Nat.le_of_ble_eq_true rfl) dL_isKept_84 (fun v9 μ21 H locs hp hM hS => ?_)
              obtain ⟨u20, rfl, h⟩ := hp
              refine W.cs (cells' := 302 + 300 * t18) (slots' := 1812 + 1800 * t18) (by first | omega | (dsimp only; omega)) (by first | omega | (dsimp only; omega)) ?_
              refine lv_bipush (v := (-75)) S.1 S.2.1 dL_isKept_87 (by decide) ?_
              refine lv_icmp_ne (tgt := 96) S.1 S.2.1 dL_isKept_89 (by decide) (fun c22 => ?_) (fun c22 => ?_)
              · have h := h.1 c22
                refine W.widen (k := 2702) (n := 16212) (by omega) (by omega) ?_
                exact hB96  μ21 H locs ls hM hS (lv_sub hl [] rfl) h
              · have h := h.2 c22
                refine lv_iconst (v := (nI 1)) S.1 S.2.1 dL_isKept_92 (by decide) ?_
                refine lv_goto (tgt := 97) S.1 S.2.1 dL_isKept_93 (by decide) ?_
                refine W.widen (k := 2702) (n := 16212) (by omega) (by omega) ?_
                exact hB97  (nI 1) μ21 H locs ls hM hS (lv_sub hl [] rfl) h
      · have h := h.2 c6
        refine lv_iinc (v := (x4 + (-1))) (lv' := [(4, .int (x4 + (-1))), (0, va_rf r0), (1, va_rf r1), (2, .int x2), (3, .int x3), (5, .int x5)]) S.1 S.2.1 dL_isKept_23 hl (k := 4) rfl rfl (by decide) rfl (fun ls hl => ?_)
        refine mz_aload_n (x := r0) S.1 S.2.1 dL_isKept_26 rfl (lv_at hl 1 rfl) ?_
        refine mz_SH S hG hM hS (As := [va_rf r0]) (rest := []) (c_L_undo hl0 h) yh_L_undo tw_1408 tw_1409 ⟨Nat.le_of_ble_eq_true rfl, Nat.le_of_ble_eq_true rfl⟩ ⟨(by show (0 + 300 * t18) + 1 ≤ 2702; omega), (by show (0 + 1800 * t18) + 6 ≤ 16212; omega)⟩ rfl hl.1 rfl (Nat.le_of_ble_eq_true rfl) dL_isKept_27 (fun v9 μ24 H locs hp hM hS => ?_)
        obtain ⟨u23, rfl, h⟩ := hp
        refine W.cs (cells' := 1 + 300 * t18) (slots' := 6 + 1800 * t18) (by first | omega | (dsimp only; omega)) (by first | omega | (dsimp only; omega)) ?_
        refine lv_iload S.1 S.2.1 dL_isKept_30 (lv_at hl 0 rfl) ?_
        refine lv_icmp_ne (tgt := 47) S.1 S.2.1 dL_isKept_32 (by decide) (fun c25 => ?_) (fun c25 => ?_)
        · have h := h.1 c25
          refine W.widen (k := 2700) (n := 16200) (by omega) (by omega) ?_
          exact hB47  μ24 H locs ls hM hS (lv_sub hl [] rfl) h
        · have h := h.2 c25
          refine mz_aload_n (x := r0) S.1 S.2.1 dL_isKept_35 rfl (lv_at hl 1 rfl) ?_
          refine mz_S S hG hM hS (As := [va_rf r0]) (rest := []) (c_L_sum hl0 h) yf_L_sum tw_1104 tw_1105 ⟨Nat.le_of_ble_eq_true rfl, Nat.le_of_ble_eq_true rfl⟩ ⟨(by show (1 + 300 * t18) + 299 ≤ 2702; omega), (by show (6 + 1800 * t18) + 1794 ≤ 16212; omega)⟩ rfl hl.1 rfl (Nat.le_of_ble_eq_true rfl) dL_isKept_36 (fun v9 μ9 H locs hp hM hS => ?_)
          obtain ⟨u26, rfl, e9, h⟩ := hp
          rw [e9] at hM
          refine W.cs (cells' := 300 + 300 * t18) (slots' := 1800 + 1800 * t18) (by first | omega | (dsimp only; omega)) (by first | omega | (dsimp only; omega)) ?_
          refine mz_aload_n (x := r1) S.1 S.2.1 dL_isKept_39 rfl (lv_at hl 2 rfl) ?_
          refine lv_iload S.1 S.2.1 dL_isKept_40 (lv_at hl 5 rfl) ?_
          obtain ⟨a27, e28, h⟩ := h
          refine mz_o1 e28 ?_
          obtain ⟨k29, h⟩ := h
          obtain ⟨b30, h⟩ := h
          refine mz_lald S hG hM dL_isKept_42 k29 b30 ?_
          refine W.lcmp S.1 S.2.1 dL_isKept_43 ?_
          refine lv_if_eq (tgt := 49) S.1 S.2.1 dL_isKept_44 (by decide) (fun c31 => ?_) (fun c31 => ?_)
          · have h := h.1 c31
            refine lv_iinc (v := (x5 + (-1))) (lv' := [(5, .int (x5 + (-1))), (4, .int (x4 + (-1))), (0, va_rf r0), (1, va_rf r1), (2, .int x2), (3, .int x3)]) S.1 S.2.1 dL_isKept_49 hl (k := 5) rfl rfl (by decide) rfl (fun ls hl => ?_)
            refine lv_goto (tgt := 18) S.1 S.2.1 dL_isKept_52 (by decide) ?_
            refine W.widen (k := 0 + 300 * (t18 + 1)) (n := 0 + 1800 * (t18 + 1)) (by omega) (by omega) ?_
            exact ih r0 r1 x2 x3 (x4 + (-1)) (x5 + (-1)) (t18 + 1) μ24 H locs ls hM hS (lv_sub hl [2, 3, 4, 5, 1, 0] rfl) h
          · have h := h.2 c31
            refine W.widen (k := 2700) (n := 16200) (by omega) (by omega) ?_
            exact hB47  μ24 H locs ls hM hS (lv_sub hl [] rfl) h
  intro H locs ls hM hS hl
  have hl : lv_has ls 6 [(0, va_rf r0), (1, va_rf r1), (2, .int x2)] := by simpa [lv_args, mz_cat, mz_cr, mz_ci, mz_cl, mz_cf, mz_cd, mz_cn] using hl
  unfold w_L_isKept at h
  refine mz_aload_n (x := r0) S.1 S.2.1 dL_isKept_0 rfl (lv_at hl 0 rfl) ?_
  obtain ⟨a1, e2, h⟩ := h
  refine mz_o0 e2 ?_
  obtain ⟨k3, h⟩ := h
  refine mz_V S hG hM hS cf_9 k3 (As := []) (rest := []) (c_X10_save h) yf_X10_save tw_1403 tw_1404 tw_1405 ⟨Nat.le_of_ble_eq_true rfl, Nat.le_of_ble_eq_true rfl⟩ ⟨(Nat.le_of_ble_eq_true rfl), (Nat.le_of_ble_eq_true rfl)⟩ rfl hl.1 rfl (Nat.le_of_ble_eq_true rfl) dL_isKept_1 (fun v9 μ5 H locs hp hM hS => ?_)
  obtain ⟨u4, rfl, h⟩ := hp
  refine W.cs (cells' := 0) (slots' := 0) rfl rfl ?_
  refine lv_istore_n (lv' := [(3, .int u4), (0, va_rf r0), (1, va_rf r1), (2, .int x2)]) S.1 S.2.1 dL_isKept_4 rfl hl (by decide) rfl (fun ls hl => ?_)
  refine lv_bipush (v := (nI 8)) S.1 S.2.1 dL_isKept_5 (by decide) ?_
  refine lv_iload_n S.1 S.2.1 dL_isKept_7 rfl (lv_at hl 3 rfl) ?_
  refine va_mmin S.1 S.2.1 (S.2.2.1.trans hl.1.symm) S.2.2.2.1 (S.2.2.2.2 _ tw_1407) (S.2.2.2.2 _ tw_835) (S.2.2.2.2 _ tw_26) (S.2.2.2.2 _ tw_836) (Nat.le_of_ble_eq_true rfl) (Nat.le_of_ble_eq_true rfl) (Nat.le_of_ble_eq_true rfl) (Nat.le_of_ble_eq_true rfl) dL_isKept_8 ?_
  refine lv_istore (lv' := [(4, .int (if x2 < (nI 8) then x2 else (nI 8))), (3, .int u4), (0, va_rf r0), (1, va_rf r1), (2, .int x2)]) S.1 S.2.1 dL_isKept_11 hl (by decide) rfl (fun ls hl => ?_)
  refine lv_iload_n S.1 S.2.1 dL_isKept_13 rfl (lv_at hl 4 rfl) ?_
  refine lv_iconst (v := (nI 1)) S.1 S.2.1 dL_isKept_14 (by decide) ?_
  refine lv_isub S.1 S.2.1 dL_isKept_15 ?_
  refine lv_istore (lv' := [(5, .int (x2 - (nI 1))), (4, .int (if x2 < (nI 8) then x2 else (nI 8))), (3, .int u4), (0, va_rf r0), (1, va_rf r1), (2, .int x2)]) S.1 S.2.1 dL_isKept_16 hl (by decide) rfl (fun ls hl => ?_)
  obtain ⟨n9, h⟩ := h
  refine W.widen (k := 0 + 300 * 0) (n := 0 + 1800 * 0) (by omega) (by omega) ?_
  exact hB18  n9 r0 r1 x2 u4 (if x2 < (nI 8) then x2 else (nI 8)) (x2 - (nI 1)) 0 μ5 H locs ls hM hS (lv_sub hl [3, 4, 5, 2, 1, 0] rfl) h
set_option maxRecDepth 100000 in
set_option maxHeartbeats 4000000 in
theorem c_J5_ensureCapacityInternal_d00df {l : Launch} {G : mgT} {μ : mmT} {o : Nat} {x1 : Int32} {Q : Prop} (h : w_J5_ensureCapacityInternal_d00df G μ o x1 Q) : MC G l yJ5_ensureCapacityInternal_d00df cJ5_ensureCapacityInternal_d00df 3 none { frames := 0, cells := 0, slots := 0, locals := 0 } [.ref o, .int x1] μ (pV (fun μ' => μ' = μ ∧ Q)) := by
  refine mz_MC (by decide +kernel) (Nat.le_of_ble_eq_true rfl) (fun p e s m args below meth c S hG hr hlk hnm => ?_)
  intro H locs ls hM hS hl
  have hl : lv_has ls 3 [(0, .ref o), (1, .int x1)] := hl
  unfold w_J5_ensureCapacityInternal_d00df at h
  refine lv_aload_n S.1 S.2.1 dJ5_ensureCapacityInternal_d00df_0 rfl (lv_at hl 0 rfl) ?_
  obtain ⟨k1, h⟩ := h
  refine mz_getr S hG hM cf_0 fd_0 tw_329 dJ5_ensureCapacityInternal_d00df_1 k1 ?_
  obtain ⟨a2, e3, h⟩ := h
  refine mz_o0 e3 ?_
  obtain ⟨k4, h⟩ := h
  refine mz_alen (j := 0) S hG hM dJ5_ensureCapacityInternal_d00df_4 k4 ?_
  refine lv_aload_n S.1 S.2.1 dJ5_ensureCapacityInternal_d00df_5 rfl (lv_at hl 0 rfl) ?_
  refine mz_geti S hG hM cf_0 fd_1 tw_330 dJ5_ensureCapacityInternal_d00df_6 k1 ?_
  refine lv_ishr S.1 S.2.1 dJ5_ensureCapacityInternal_d00df_9 ?_
  refine lv_istore_n (lv' := [(2, .int ((nI (mN μ a2)) >>> ((mI μ 1 o) &&& 31))), (0, .ref o), (1, .int x1)]) S.1 S.2.1 dJ5_ensureCapacityInternal_d00df_10 rfl hl (by decide) rfl (fun ls hl => ?_)
  refine lv_iload_n S.1 S.2.1 dJ5_ensureCapacityInternal_d00df_11 rfl (lv_at hl 2 rfl) ?_
  refine lv_iload_n S.1 S.2.1 dJ5_ensureCapacityInternal_d00df_12 rfl (lv_at hl 0 rfl) ?_
  refine lv_isub S.1 S.2.1 dJ5_ensureCapacityInternal_d00df_13 ?_
  obtain ⟨c5, h⟩ := h
  refine lv_if_le (tgt := 38) S.1 S.2.1 dJ5_ensureCapacityInternal_d00df_14 (by decide) (fun _ => ?_) (fun c => absurd c5 c)
  exact mz_vret S hr hlk hM hS (Nat.le_of_ble_eq_true rfl) (Nat.le_of_ble_eq_true rfl) dJ5_ensureCapacityInternal_d00df_38 ⟨rfl, rfl, h⟩
set_option maxRecDepth 100000 in
set_option maxHeartbeats 4000000 in
theorem c_J5_inflateIfNeededFor_a7421 {l : Launch} {G : mgT} {μ : mmT} {o : Nat} {r1 : Option Nat} {Q : Prop} (h : w_J5_inflateIfNeededFor_a7421 G μ o r1 Q) : MC G l yJ5_inflateIfNeededFor_a7421 cJ5_inflateIfNeededFor_a7421 2 none { frames := 1, cells := 0, slots := 0, locals := 20 } [.ref o, va_rf r1] μ (pV (fun μ' => μ' = μ ∧ Q)) := by
  refine mz_MC (by decide +kernel) (by simp [lg_sl, mz_cat, mz_cr, mz_ci, mz_cl, mz_cf, mz_cd, mz_cn]) (fun p e s m args below meth c S hG hr hlk hnm => ?_)
  intro H locs ls hM hS hl
  have hl : lv_has ls 2 [(0, .ref o), (1, va_rf r1)] := by simpa [lv_args, mz_cat, mz_cr, mz_ci, mz_cl, mz_cf, mz_cd, mz_cn] using hl
  unfold w_J5_inflateIfNeededFor_a7421 at h
  refine va_gets S.1 S.2.1 (hG.2.2.2.2.2.2.2.2.2.2.1) hS S.2.2.2.1 (S.2.2.2.2 _ tw_320) (fun _ q => q) dJ5_inflateIfNeededFor_a7421_0 ?_
  obtain ⟨c1, h⟩ := h
  refine lv_if_eq (tgt := 21) S.1 S.2.1 dJ5_inflateIfNeededFor_a7421_3 (by decide) (fun c => absurd c c1) (fun _ => ?_)
  refine lv_aload_n S.1 S.2.1 dJ5_inflateIfNeededFor_a7421_6 rfl (lv_at hl 0 rfl) ?_
  obtain ⟨k2, h⟩ := h
  refine mz_geti S hG hM cf_0 fd_1 tw_330 dJ5_inflateIfNeededFor_a7421_7 k2 ?_
  refine mz_aload_n (x := r1) S.1 S.2.1 dJ5_inflateIfNeededFor_a7421_10 rfl (lv_at hl 1 rfl) ?_
  obtain ⟨a3, e4, h⟩ := h
  refine mz_o0 e4 ?_
  obtain ⟨j5, q6, l7, h⟩ := h
  refine mz_V0 S hG hM hS (mz_recvO (by rw [q6]; exact (hG.txt j5 l7).1) hS) (As := []) (rest := [.int (mI μ 1 o)]) (c_J0_coder_7d493 h) yf_J0_coder_7d493 tw_886 tw_874 (S.2.2.2.2 _ tw_875) ⟨Nat.le_of_ble_eq_true rfl, Nat.le_of_ble_eq_true rfl⟩ ⟨(Nat.le_of_ble_eq_true rfl), (Nat.le_of_ble_eq_true rfl)⟩ rfl hl.1 rfl (Nat.le_of_ble_eq_true rfl) dJ5_inflateIfNeededFor_a7421_11 (fun v9 μ9 H locs hp hM hS => ?_)
  obtain ⟨u8, rfl, e9, h⟩ := hp
  rw [e9] at hM
  refine W.cs (cells' := 0) (slots' := 0) rfl rfl ?_
  obtain ⟨c9, h⟩ := h
  refine lv_icmp_eq (tgt := 21) S.1 S.2.1 dJ5_inflateIfNeededFor_a7421_14 (by decide) (fun _ => ?_) (fun c => absurd c9 c)
  exact mz_vret S hr hlk hM hS (Nat.le_of_ble_eq_true rfl) (Nat.le_of_ble_eq_true rfl) dJ5_inflateIfNeededFor_a7421_21 ⟨rfl, rfl, h⟩
set_option maxRecDepth 100000 in
set_option maxHeartbeats 4000000 in
theorem c_J0_getBytes_840e7 {l : Launch} {G : mgT} {μ : mmT} {o : Nat} {r1 : Option Nat} {x2 : Int32} {x3 : Int32} {Q : mmT → Prop} (h : w_J0_getBytes_840e7 G μ o r1 x2 x3 Q) : MC G l yJ0_getBytes_840e7 cJ0_getBytes_840e7 4 none { frames := 1, cells := 0, slots := 0, locals := 60 } [.ref o, va_rf r1, .int x2, .int x3] μ (pV Q) := by
  refine mz_MC (by decide +kernel) (by simp [lg_sl, mz_cat, mz_cr, mz_ci, mz_cl, mz_cf, mz_cd, mz_cn]) (fun p e s m args below meth c S hG hr hlk hnm => ?_)
  intro H locs ls hM hS hl
  have hl : lv_has ls 4 [(0, .ref o), (1, va_rf r1), (2, .int x2), (3, .int x3)] := by simpa [lv_args, mz_cat, mz_cr, mz_ci, mz_cl, mz_cf, mz_cd, mz_cn] using hl
  unfold w_J0_getBytes_840e7 at h
  refine lv_aload_n S.1 S.2.1 dJ0_getBytes_840e7_0 rfl (lv_at hl 0 rfl) ?_
  obtain ⟨j1, q2, l3, h⟩ := h
  refine mz_V0 S hG hM hS (mz_recvO (by rw [q2]; exact (hG.txt j1 l3).1) hS) (As := []) (rest := []) (c_J0_coder_7d493 h) yf_J0_coder_7d493 tw_873 tw_874 (S.2.2.2.2 _ tw_875) ⟨Nat.le_of_ble_eq_true rfl, Nat.le_of_ble_eq_true rfl⟩ ⟨(Nat.le_of_ble_eq_true rfl), (Nat.le_of_ble_eq_true rfl)⟩ rfl hl.1 rfl (Nat.le_of_ble_eq_true rfl) dJ0_getBytes_840e7_1 (fun v9 μ9 H locs hp hM hS => ?_)
  obtain ⟨u4, rfl, e9, h⟩ := hp
  rw [e9] at hM
  refine W.cs (cells' := 0) (slots' := 0) rfl rfl ?_
  refine lv_iload_n S.1 S.2.1 dJ0_getBytes_840e7_4 rfl (lv_at hl 3 rfl) ?_
  obtain ⟨c5, h⟩ := h
  refine lv_icmp_ne (tgt := 28) S.1 S.2.1 dJ0_getBytes_840e7_5 (by decide) (fun c => absurd c5 c) (fun _ => ?_)
  refine lv_aload_n S.1 S.2.1 dJ0_getBytes_840e7_8 rfl (lv_at hl 0 rfl) ?_
  refine mz_tops (congrArg Value.ref q2) ?_
  refine vk_getf S.1 S.2.1 (hG.txt j1 l3).2.2.1 hS S.2.2.2.1 (S.2.2.2.2 _ tw_995) (fun _ q => q) dJ0_getBytes_840e7_9 ?_
  refine lv_iconst (v := (nI 0)) S.1 S.2.1 dJ0_getBytes_840e7_12 (by decide) ?_
  refine mz_aload_n (x := r1) S.1 S.2.1 dJ0_getBytes_840e7_13 rfl (lv_at hl 1 rfl) ?_
  refine lv_iload_n S.1 S.2.1 dJ0_getBytes_840e7_14 rfl (lv_at hl 2 rfl) ?_
  refine lv_iload_n S.1 S.2.1 dJ0_getBytes_840e7_15 rfl (lv_at hl 3 rfl) ?_
  refine lv_ishl S.1 S.2.1 dJ0_getBytes_840e7_16 ?_
  refine lv_aload_n S.1 S.2.1 dJ0_getBytes_840e7_17 rfl (lv_at hl 0 rfl) ?_
  refine mz_tops (congrArg Value.ref q2) ?_
  refine vk_getf S.1 S.2.1 (hG.txt j1 l3).2.2.1 hS S.2.2.2.1 (S.2.2.2.2 _ tw_995) (fun _ q => q) dJ0_getBytes_840e7_18 ?_
  obtain ⟨j6, q7, l8, h⟩ := h
  refine mz_txtL S hG hS l8 q7 dJ0_getBytes_840e7_21 ?_
  obtain ⟨a9, e10, h⟩ := h
  refine mz_o2 e10 ?_
  obtain ⟨k11, h⟩ := h
  obtain ⟨g12, h⟩ := h
  obtain ⟨g13, h⟩ := h
  obtain ⟨b14, b15, h⟩ := h
  refine mz_copyT S hG hM hS hl.1 tw_910 tw_549 tw_548 tw_23 l8 q7 k11 (by decide) g12 g13 b14 b15 (Nat.le_of_ble_eq_true rfl) (Nat.le_of_ble_eq_true rfl) dJ0_getBytes_840e7_22 (fun H locs hM hS hz9 => ?_)
  refine lv_goto (tgt := 43) S.1 S.2.1 dJ0_getBytes_840e7_25 (by decide) ?_
  exact mz_vret S hr hlk hM hS (Nat.le_of_ble_eq_true rfl) (Nat.le_of_ble_eq_true rfl) dJ0_getBytes_840e7_43 ⟨rfl, h⟩
set_option maxRecDepth 100000 in
set_option maxHeartbeats 4000000 in
theorem c_J5_putStringAt_47b60 {l : Launch} {G : mgT} {μ : mmT} {o : Nat} {x1 : Int32} {r2 : Option Nat} {Q : mmT → Prop} (h : w_J5_putStringAt_47b60 G μ o x1 r2 Q) : MC G l yJ5_putStringAt_47b60 cJ5_putStringAt_47b60 3 none { frames := 2, cells := 0, slots := 0, locals := 83 } [.ref o, .int x1, va_rf r2] μ (pV Q) := by
  refine mz_MC (by decide +kernel) (by simp [lg_sl, mz_cat, mz_cr, mz_ci, mz_cl, mz_cf, mz_cd, mz_cn]) (fun p e s m args below meth c S hG hr hlk hnm => ?_)
  intro H locs ls hM hS hl
  have hl : lv_has ls 3 [(0, .ref o), (1, .int x1), (2, va_rf r2)] := by simpa [lv_args, mz_cat, mz_cr, mz_ci, mz_cl, mz_cf, mz_cd, mz_cn] using hl
  unfold w_J5_putStringAt_47b60 at h
  refine lv_aload_n S.1 S.2.1 dJ5_putStringAt_47b60_0 rfl (lv_at hl 0 rfl) ?_
  refine mz_aload_n (x := r2) S.1 S.2.1 dJ5_putStringAt_47b60_1 rfl (lv_at hl 2 rfl) ?_
  obtain ⟨k1, h⟩ := h
  refine mz_V0 S hG hM hS (mz_recv hG hM cf_0 k1) (As := [va_rf r2]) (rest := []) (c_J5_inflateIfNeededFor_a7421 h) yf_J5_inflateIfNeededFor_a7421 tw_882 tw_884 (S.2.2.2.2 _ (TT_x (i := 2) rfl (by decide +kernel))) ⟨Nat.le_of_ble_eq_true rfl, Nat.le_of_ble_eq_true rfl⟩ ⟨(Nat.le_of_ble_eq_true rfl), (Nat.le_of_ble_eq_true rfl)⟩ rfl hl.1 rfl (Nat.le_of_ble_eq_true rfl) dJ5_putStringAt_47b60_2 (fun v9 μ9 H locs hp hM hS => ?_)
  obtain ⟨rfl, e9, h⟩ := hp
  rw [e9] at hM
  refine W.cs (cells' := 0) (slots' := 0) rfl rfl ?_
  refine mz_aload_n (x := r2) S.1 S.2.1 dJ5_putStringAt_47b60_5 rfl (lv_at hl 2 rfl) ?_
  refine lv_aload_n S.1 S.2.1 dJ5_putStringAt_47b60_6 rfl (lv_at hl 0 rfl) ?_
  refine mz_getr S hG hM cf_0 fd_0 tw_329 dJ5_putStringAt_47b60_7 k1 ?_
  refine lv_iload_n S.1 S.2.1 dJ5_putStringAt_47b60_10 rfl (lv_at hl 1 rfl) ?_
  refine lv_aload_n S.1 S.2.1 dJ5_putStringAt_47b60_11 rfl (lv_at hl 0 rfl) ?_
  refine mz_geti S hG hM cf_0 fd_1 tw_330 dJ5_putStringAt_47b60_12 k1 ?_
  obtain ⟨a2, e3, h⟩ := h
  refine mz_o3 e3 ?_
  obtain ⟨j4, q5, l6, h⟩ := h
  refine mz_V0 S hG hM hS (mz_recvO (by rw [q5]; exact (hG.txt j4 l6).1) hS) (As := [va_rf (mR μ 0 o), .int x1, .int (mI μ 1 o)]) (rest := []) (c_J0_getBytes_840e7 h) yf_J0_getBytes_840e7 tw_906 tw_907 (S.2.2.2.2 _ tw_908) ⟨Nat.le_of_ble_eq_true rfl, Nat.le_of_ble_eq_true rfl⟩ ⟨(Nat.le_of_ble_eq_true rfl), (Nat.le_of_ble_eq_true rfl)⟩ rfl hl.1 rfl (Nat.le_of_ble_eq_true rfl) dJ5_putStringAt_47b60_15 (fun v9 μ7 H locs hp hM hS => ?_)
  obtain ⟨rfl, h⟩ := hp
  refine W.cs (cells' := 0) (slots' := 0) rfl rfl ?_
  exact mz_vret S hr hlk hM hS (Nat.le_of_ble_eq_true rfl) (Nat.le_of_ble_eq_true rfl) dJ5_putStringAt_47b60_18 ⟨rfl, h⟩
set_option maxRecDepth 100000 in
set_option maxHeartbeats 4000000 in
theorem c_J5_append_cf1ce {l : Launch} {G : mgT} {μ : mmT} {o : Nat} {r1 : Option Nat} {Q : Option Nat → mmT → Prop} (h : w_J5_append_cf1ce G μ o r1 Q) : MC G l yJ5_append_cf1ce cJ5_append_cf1ce 3 (some (.object "java/lang/AbstractStringBuilder")) { frames := 3, cells := 0, slots := 0, locals := 105 } [.ref o, va_rf r1] μ (pR Q) := by
  refine mz_MC (by decide +kernel) (by simp [lg_sl, mz_cat, mz_cr, mz_ci, mz_cl, mz_cf, mz_cd, mz_cn]) (fun p e s m args below meth c S hG hr hlk hnm => ?_)
  intro H locs ls hM hS hl
  have hl : lv_has ls 3 [(0, .ref o), (1, va_rf r1)] := by simpa [lv_args, mz_cat, mz_cr, mz_ci, mz_cl, mz_cf, mz_cd, mz_cn] using hl
  unfold w_J5_append_cf1ce at h
  refine mz_aload_n (x := r1) S.1 S.2.1 dJ5_append_cf1ce_0 rfl (lv_at hl 1 rfl) ?_
  obtain ⟨a1, e2, h⟩ := h
  refine mz_o0 e2 ?_
  refine lv_ifnonnull (tgt := 9) S.1 S.2.1 dJ5_append_cf1ce_1 (by decide) ?_
  refine mz_aload_n (x := r1) S.1 S.2.1 dJ5_append_cf1ce_9 rfl (lv_at hl 1 rfl) ?_
  refine mz_o0 e2 ?_
  obtain ⟨j3, q4, l5, h⟩ := h
  refine mz_V0 S hG hM hS (mz_recvO (by rw [q4]; exact (hG.txt j3 l5).1) hS) (As := []) (rest := []) (c_J0_length_8abf5 h) yf_J0_length_8abf5 tw_869 tw_870 (S.2.2.2.2 _ tw_871) ⟨Nat.le_of_ble_eq_true rfl, Nat.le_of_ble_eq_true rfl⟩ ⟨(Nat.le_of_ble_eq_true rfl), (Nat.le_of_ble_eq_true rfl)⟩ rfl hl.1 rfl (Nat.le_of_ble_eq_true rfl) dJ5_append_cf1ce_10 (fun v9 μ9 H locs hp hM hS => ?_)
  obtain ⟨u6, rfl, e9, h⟩ := hp
  rw [e9] at hM
  refine W.cs (cells' := 0) (slots' := 0) rfl rfl ?_
  refine lv_istore_n (i := 2) (lv' := [(2, .int u6), (0, .ref o), (1, va_rf r1)]) S.1 S.2.1 dJ5_append_cf1ce_13 rfl hl (by decide) (by simp [List.filter, mz_cat]) (fun ls hl => ?_)
  refine lv_aload_n S.1 S.2.1 dJ5_append_cf1ce_14 rfl (lv_at hl 1 rfl) ?_
  refine lv_aload_n S.1 S.2.1 dJ5_append_cf1ce_15 rfl (lv_at hl 1 rfl) ?_
  obtain ⟨k7, h⟩ := h
  refine mz_geti S hG hM cf_0 fd_3 tw_332 dJ5_append_cf1ce_16 k7 ?_
  refine lv_iload_n S.1 S.2.1 dJ5_append_cf1ce_19 rfl (lv_at hl 0 rfl) ?_
  refine lv_iadd S.1 S.2.1 dJ5_append_cf1ce_20 ?_
  refine mz_V0 S hG hM hS (mz_recv hG hM cf_0 k7) (As := [.int ((mI μ 3 o) + u6)]) (rest := []) (c_J5_ensureCapacityInternal_d00df h) yf_J5_ensureCapacityInternal_d00df tw_805 tw_807 (S.2.2.2.2 _ (TT_x (i := 0) rfl (by decide +kernel))) ⟨Nat.le_of_ble_eq_true rfl, Nat.le_of_ble_eq_true rfl⟩ ⟨(Nat.le_of_ble_eq_true rfl), (Nat.le_of_ble_eq_true rfl)⟩ rfl hl.1 rfl (Nat.le_of_ble_eq_true rfl) dJ5_append_cf1ce_21 (fun v9 μ9 H locs hp hM hS => ?_)
  obtain ⟨rfl, e9, h⟩ := hp
  rw [e9] at hM
  refine W.cs (cells' := 0) (slots' := 0) rfl rfl ?_
  refine lv_aload_n S.1 S.2.1 dJ5_append_cf1ce_24 rfl (lv_at hl 1 rfl) ?_
  refine lv_aload_n S.1 S.2.1 dJ5_append_cf1ce_25 rfl (lv_at hl 1 rfl) ?_
  refine mz_geti S hG hM cf_0 fd_3 tw_332 dJ5_append_cf1ce_26 k7 ?_
  refine mz_aload_n (x := r1) S.1 S.2.1 dJ5_append_cf1ce_29 rfl (lv_at hl 2 rfl) ?_
  refine mz_V0 S hG hM hS (mz_recv hG hM cf_0 k7) (As := [.int (mI μ 3 o), va_rf r1]) (rest := []) (c_J5_putStringAt_47b60 h) yf_J5_putStringAt_47b60 tw_878 tw_880 (S.2.2.2.2 _ (TT_x (i := 1) rfl (by decide +kernel))) ⟨Nat.le_of_ble_eq_true rfl, Nat.le_of_ble_eq_true rfl⟩ ⟨(Nat.le_of_ble_eq_true rfl), (Nat.le_of_ble_eq_true rfl)⟩ rfl hl.1 rfl (Nat.le_of_ble_eq_true rfl) dJ5_append_cf1ce_30 (fun v9 μ8 H locs hp hM hS => ?_)
  obtain ⟨rfl, h⟩ := hp
  refine W.cs (cells' := 0) (slots' := 0) rfl rfl ?_
  refine lv_aload_n S.1 S.2.1 dJ5_append_cf1ce_33 rfl (lv_at hl 1 rfl) ?_
  refine lv_dup S.1 S.2.1 dJ5_append_cf1ce_34 rfl ?_
  obtain ⟨k9, h⟩ := h
  refine mz_geti S hG hM cf_0 fd_3 tw_332 dJ5_append_cf1ce_35 k9 ?_
  refine lv_iload_n S.1 S.2.1 dJ5_append_cf1ce_38 rfl (lv_at hl 0 rfl) ?_
  refine lv_iadd S.1 S.2.1 dJ5_append_cf1ce_39 ?_
  refine mz_puti S hG hM hS cf_0 fd_3 tw_332 dJ5_append_cf1ce_40 k9 rfl rfl (fun H locs hM hS hz9 => ?_)
  refine lv_aload_n S.1 S.2.1 dJ5_append_cf1ce_43 rfl (lv_at hl 1 rfl) ?_
  exact mz_aret (x := (some o)) S hr (by first | exact Or.inl ⟨_, rfl⟩ | exact Or.inr ⟨_, rfl⟩) hlk hM hS (Nat.le_of_ble_eq_true rfl) (Nat.le_of_ble_eq_true rfl) dJ5_append_cf1ce_44 ⟨_, rfl, h⟩
set_option maxRecDepth 100000 in
set_option maxHeartbeats 4000000 in
theorem c_J4_append_15ec4 {l : Launch} {G : mgT} {μ : mmT} {o : Nat} {r1 : Option Nat} {Q : Option Nat → mmT → Prop} (h : w_J4_append_15ec4 G μ o r1 Q) : MC G l yJ4_append_15ec4 cJ4_append_15ec4 2 (some (.object "java/lang/StringBuilder")) { frames := 4, cells := 0, slots := 0, locals := 127 } [.ref o, va_rf r1] μ (pR Q) := by
  refine mz_MC (by decide +kernel) (by simp [lg_sl, mz_cat, mz_cr, mz_ci, mz_cl, mz_cf, mz_cd, mz_cn]) (fun p e s m args below meth c S hG hr hlk hnm => ?_)
  intro H locs ls hM hS hl
  have hl : lv_has ls 2 [(0, .ref o), (1, va_rf r1)] := by simpa [lv_args, mz_cat, mz_cr, mz_ci, mz_cl, mz_cf, mz_cd, mz_cn] using hl
  unfold w_J4_append_15ec4 at h
  refine lv_aload_n S.1 S.2.1 dJ4_append_15ec4_0 rfl (lv_at hl 0 rfl) ?_
  refine mz_aload_n (x := r1) S.1 S.2.1 dJ4_append_15ec4_1 rfl (lv_at hl 1 rfl) ?_
  obtain ⟨k1, h⟩ := h
  refine mz_SU S hG hM hS cf_0 k1 (As := [va_rf r1]) (rest := []) (c_J5_append_cf1ce h) yf_J5_append_cf1ce tw_798 tw_1430 tw_341 tw_799 (by decide) ⟨Nat.le_of_ble_eq_true rfl, Nat.le_of_ble_eq_true rfl⟩ ⟨(Nat.le_of_ble_eq_true rfl), (Nat.le_of_ble_eq_true rfl)⟩ rfl hl.1 rfl (Nat.le_of_ble_eq_true rfl) dJ4_append_15ec4_2 (fun v9 μ3 H locs hp hM hS => ?_)
  obtain ⟨ru2, rfl, h⟩ := hp
  refine W.cs (cells' := 0) (slots' := 0) rfl rfl ?_
  refine lv_pop S.1 S.2.1 dJ4_append_15ec4_5 (mz_cat _) ?_
  refine lv_aload_n S.1 S.2.1 dJ4_append_15ec4_6 rfl (lv_at hl 0 rfl) ?_
  exact mz_aret (x := (some o)) S hr (by first | exact Or.inl ⟨_, rfl⟩ | exact Or.inr ⟨_, rfl⟩) hlk hM hS (Nat.le_of_ble_eq_true rfl) (Nat.le_of_ble_eq_true rfl) dJ4_append_15ec4_7 ⟨_, rfl, h⟩
set_option maxRecDepth 100000 in
set_option maxHeartbeats 4000000 in
theorem c_J6_stringSize_0f7a4 {l : Launch} {G : mgT} {μ : mmT} {x0 : Int32} {Q : Int32 → Prop} (h : w_J6_stringSize_0f7a4 G μ x0 Q) : MC G l yJ6_stringSize_0f7a4 cJ6_stringSize_0f7a4 4 (some .int) { frames := 0, cells := 0, slots := 0, locals := 0 } [.int x0] μ (pI (fun r μ' => μ' = μ ∧ Q r)) := by
  refine mz_MC (by decide +kernel) (Nat.le_of_ble_eq_true rfl) (fun p e s m args below meth c S hG hr hlk hnm => ?_)
  have hB16 : ∀ (n : Nat) (x0 : Int32) (x1 : Int32) (x2 : Int32) (x3 : Int32) (H : Heap) (locs : List Loc) (ls : Array Slot), Mm G μ H → va_S (Ah G) s.heap H locs → lv_has ls 4 [(0, .int x0), (1, .int x1), (2, .int x2), (3, .int x3)] → w_J6_stringSize_0f7a4_l16 G μ Q  n x0 x1 x2 x3 → W p l e { frames := 0, cells := 0, slots := 0, locals := 0 } s m args below meth c H locs (0) (0) (MQ below (mQ G (pI (fun r μ' => μ' = μ ∧ Q r))) args s 0 0 (Ah G)) (F0 m 16 ls []) := by
    intro  n
    induction n with
    | zero =>
      intro x0 x1 x2 x3 H locs ls hM hS hl h
      exact False.elim h
    | succ n ih =>
      intro x0 x1 x2 x3 H locs ls hM hS hl h
      have h : w_J6_stringSize_0f7a4_b16 G μ Q  (w_J6_stringSize_0f7a4_l16 G μ Q  n) x0 x1 x2 x3 := h
      unfold w_J6_stringSize_0f7a4_b16 at h
      refine lv_iload_n S.1 S.2.1 dJ6_stringSize_0f7a4_16 rfl (lv_at hl 3 rfl) ?_
      refine lv_bipush (v := (nI 10)) S.1 S.2.1 dJ6_stringSize_0f7a4_17 (by decide) ?_
      refine lv_icmp_ge (tgt := 42) S.1 S.2.1 dJ6_stringSize_0f7a4_19 (by decide) (fun c2 => ?_) (fun c2 => ?_)
      · have h := h.1 c2
        refine lv_bipush (v := (nI 10)) S.1 S.2.1 dJ6_stringSize_0f7a4_42 (by decide) ?_
        refine lv_iload_n S.1 S.2.1 dJ6_stringSize_0f7a4_44 rfl (lv_at hl 1 rfl) ?_
        refine lv_iadd S.1 S.2.1 dJ6_stringSize_0f7a4_45 ?_
        exact mz_iret S hr hlk hM hS rfl (Nat.le_of_ble_eq_true rfl) (Nat.le_of_ble_eq_true rfl) dJ6_stringSize_0f7a4_46 ⟨_, rfl, rfl, h⟩
      · have h := h.2 c2
        refine lv_iload_n S.1 S.2.1 dJ6_stringSize_0f7a4_22 rfl (lv_at hl 0 rfl) ?_
        refine lv_iload_n S.1 S.2.1 dJ6_stringSize_0f7a4_23 rfl (lv_at hl 2 rfl) ?_
        refine lv_icmp_le (tgt := 31) S.1 S.2.1 dJ6_stringSize_0f7a4_24 (by decide) (fun c3 => ?_) (fun c3 => ?_)
        · have h := h.1 c3
          refine lv_bipush (v := (nI 10)) S.1 S.2.1 dJ6_stringSize_0f7a4_31 (by decide) ?_
          refine lv_iload_n S.1 S.2.1 dJ6_stringSize_0f7a4_33 rfl (lv_at hl 2 rfl) ?_
          refine lv_imul S.1 S.2.1 dJ6_stringSize_0f7a4_34 ?_
          refine lv_istore_n (lv' := [(2, .int ((nI 10) * x2)), (0, .int x0), (1, .int x1), (3, .int x3)]) S.1 S.2.1 dJ6_stringSize_0f7a4_35 rfl hl (by decide) rfl (fun ls hl => ?_)
          refine lv_iinc (v := (x3 + nI 1)) (lv' := [(3, .int (x3 + nI 1)), (2, .int ((nI 10) * x2)), (0, .int x0), (1, .int x1)]) S.1 S.2.1 dJ6_stringSize_0f7a4_36 hl (k := 3) rfl rfl (by decide) rfl (fun ls hl => ?_)
          refine lv_goto (tgt := 16) S.1 S.2.1 dJ6_stringSize_0f7a4_39 (by decide) ?_
          exact ih x0 x1 ((nI 10) * x2) (x3 + nI 1) H locs ls hM hS (lv_sub hl [2, 3, 1, 0] rfl) h
        · have h := h.2 c3
          refine lv_iload_n S.1 S.2.1 dJ6_stringSize_0f7a4_27 rfl (lv_at hl 3 rfl) ?_
          refine lv_iload_n S.1 S.2.1 dJ6_stringSize_0f7a4_28 rfl (lv_at hl 1 rfl) ?_
          refine lv_iadd S.1 S.2.1 dJ6_stringSize_0f7a4_29 ?_
          exact mz_iret S hr hlk hM hS rfl (Nat.le_of_ble_eq_true rfl) (Nat.le_of_ble_eq_true rfl) dJ6_stringSize_0f7a4_30 ⟨_, rfl, rfl, h⟩
  have hB11 : ∀ (x0 : Int32) (x1 : Int32) (H : Heap) (locs : List Loc) (ls : Array Slot), Mm G μ H → va_S (Ah G) s.heap H locs → lv_has ls 4 [(0, .int x0), (1, .int x1)] → w_J6_stringSize_0f7a4_b11 G μ Q  x0 x1 → W p l e { frames := 0, cells := 0, slots := 0, locals := 0 } s m args below meth c H locs (0) (0) (MQ below (mQ G (pI (fun r μ' => μ' = μ ∧ Q r))) args s 0 0 (Ah G)) (F0 m 11 ls []) := by
    intro  x0 x1 H locs ls hM hS hl h
    unfold w_J6_stringSize_0f7a4_b11 at h
    refine lv_bipush (v := (-10)) S.1 S.2.1 dJ6_stringSize_0f7a4_11 (by decide) ?_
    refine lv_istore_n (lv' := [(2, .int (-10)), (0, .int x0), (1, .int x1)]) S.1 S.2.1 dJ6_stringSize_0f7a4_13 rfl hl (by decide) rfl (fun ls hl => ?_)
    refine lv_iconst (v := (nI 1)) S.1 S.2.1 dJ6_stringSize_0f7a4_14 (by decide) ?_
    refine lv_istore_n (lv' := [(3, .int (nI 1)), (2, .int (-10)), (0, .int x0), (1, .int x1)]) S.1 S.2.1 dJ6_stringSize_0f7a4_15 rfl hl (by decide) rfl (fun ls hl => ?_)
    obtain ⟨n9, h⟩ := h
    exact hB16  n9 x0 x1 (-10) (nI 1) H locs ls hM hS (lv_sub hl [2, 3, 1, 0] rfl) h
  intro H locs ls hM hS hl
  have hl : lv_has ls 4 [(0, .int x0)] := hl
  unfold w_J6_stringSize_0f7a4 at h
  refine lv_iconst (v := (nI 1)) S.1 S.2.1 dJ6_stringSize_0f7a4_0 (by decide) ?_
  refine lv_istore_n (lv' := [(1, .int (nI 1)), (0, .int x0)]) S.1 S.2.1 dJ6_stringSize_0f7a4_1 rfl hl (by decide) rfl (fun ls hl => ?_)
  refine lv_iload_n S.1 S.2.1 dJ6_stringSize_0f7a4_2 rfl (lv_at hl 1 rfl) ?_
  refine lv_if_lt (tgt := 11) S.1 S.2.1 dJ6_stringSize_0f7a4_3 (by decide) (fun c1 => ?_) (fun c1 => ?_)
  · have h := h.1 c1
    exact hB11  x0 (nI 1) H locs ls hM hS (lv_sub hl [1, 0] rfl) h
  · have h := h.2 c1
    refine lv_iconst (v := (nI 0)) S.1 S.2.1 dJ6_stringSize_0f7a4_6 (by decide) ?_
    refine lv_istore_n (lv' := [(1, .int (nI 0)), (0, .int x0)]) S.1 S.2.1 dJ6_stringSize_0f7a4_7 rfl hl (by decide) rfl (fun ls hl => ?_)
    refine lv_iload_n S.1 S.2.1 dJ6_stringSize_0f7a4_8 rfl (lv_at hl 1 rfl) ?_
    refine lv_ineg S.1 S.2.1 dJ6_stringSize_0f7a4_9 ?_
    refine lv_istore_n (lv' := [(0, .int (-x0)), (1, .int (nI 0))]) S.1 S.2.1 dJ6_stringSize_0f7a4_10 rfl hl (by decide) rfl (fun ls hl => ?_)
    exact hB11  (-x0) (nI 0) H locs ls hM hS (lv_sub hl [0, 1] rfl) h
set_option maxRecDepth 100000 in
set_option maxHeartbeats 4000000 in
theorem c_J5_isLatin1_aae02 {l : Launch} {G : mgT} {μ : mmT} {o : Nat} {Q : Int32 → Prop} (h : w_J5_isLatin1_aae02 G μ o Q) : MC G l yJ5_isLatin1_aae02 cJ5_isLatin1_aae02 1 (some .boolean) { frames := 0, cells := 0, slots := 0, locals := 0 } [.ref o] μ (pI (fun r μ' => μ' = μ ∧ Q r)) := by
  refine mz_MC (by decide +kernel) (Nat.le_of_ble_eq_true rfl) (fun p e s m args below meth c S hG hr hlk hnm => ?_)
  intro H locs ls hM hS hl
  have hl : lv_has ls 1 [(0, .ref o)] := hl
  unfold w_J5_isLatin1_aae02 at h
  refine va_gets S.1 S.2.1 (hG.2.2.2.2.2.2.2.2.2.2.1) hS S.2.2.2.1 (S.2.2.2.2 _ tw_320) (fun _ q => q) dJ5_isLatin1_aae02_0 ?_
  obtain ⟨c1, h⟩ := h
  refine lv_if_eq (tgt := 17) S.1 S.2.1 dJ5_isLatin1_aae02_3 (by decide) (fun c => absurd c c1) (fun _ => ?_)
  refine lv_aload_n S.1 S.2.1 dJ5_isLatin1_aae02_6 rfl (lv_at hl 0 rfl) ?_
  obtain ⟨k2, h⟩ := h
  refine mz_geti S hG hM cf_0 fd_1 tw_330 dJ5_isLatin1_aae02_7 k2 ?_
  obtain ⟨c3, h⟩ := h
  refine lv_if_ne (tgt := 17) S.1 S.2.1 dJ5_isLatin1_aae02_10 (by decide) (fun c => absurd c3 c) (fun _ => ?_)
  refine lv_iconst (v := (nI 1)) S.1 S.2.1 dJ5_isLatin1_aae02_13 (by decide) ?_
  refine lv_goto (tgt := 18) S.1 S.2.1 dJ5_isLatin1_aae02_14 (by decide) ?_
  exact mz_iret S hr hlk hM hS rfl (Nat.le_of_ble_eq_true rfl) (Nat.le_of_ble_eq_true rfl) dJ5_isLatin1_aae02_18 ⟨_, rfl, rfl, h⟩
set_option maxRecDepth 100000 in
set_option maxHeartbeats 4000000 in
theorem c_J6_getChars_ba4f3 {l : Launch} {G : mgT} {μ : mmT} {x0 : Int32} {x1 : Int32} {r2 : Option Nat} {Q : Int32 → mmT → Prop} (h : w_J6_getChars_ba4f3 G μ x0 x1 r2 Q) : MC G l yJ6_getChars_ba4f3 cJ6_getChars_ba4f3 7 (some .int) { frames := 0, cells := 0, slots := 0, locals := 0 } [.int x0, .int x1, va_rf r2] μ (pI Q) := by
  refine mz_MC (by decide +kernel) (by simp [lg_sl, mz_cat, mz_cr, mz_ci, mz_cl, mz_cf, mz_cd, mz_cn]) (fun p e s m args below meth c S hG hr hlk hnm => ?_)
  have hB118 : ∀ (x5 : Int32) (μ : mmT) (H : Heap) (locs : List Loc) (ls : Array Slot), Mm G μ H → va_S (Ah G) s.heap H locs → lv_has ls 7 [(5, .int x5)] → w_J6_getChars_ba4f3_b118 G Q  x5 μ → W p l e { frames := 0, cells := 0, slots := 0, locals := 0 } s m args below meth c H locs (0) (0) (MQ below (mQ G (pI Q)) args s 0 0 (Ah G)) (F0 m 118 ls []) := by
    intro  x5 μ H locs ls hM hS hl h
    unfold w_J6_getChars_ba4f3_b118 at h
    refine lv_iload S.1 S.2.1 dJ6_getChars_ba4f3_118 (lv_at hl 0 rfl) ?_
    exact mz_iret S hr hlk hM hS rfl (Nat.le_of_ble_eq_true rfl) (Nat.le_of_ble_eq_true rfl) dJ6_getChars_ba4f3_120 ⟨_, rfl, h⟩
  have hB104 : ∀ (r2 : Option Nat) (x5 : Int32) (x6 : Int32) (μ : mmT) (H : Heap) (locs : List Loc) (ls : Array Slot), Mm G μ H → va_S (Ah G) s.heap H locs → lv_has ls 7 [(2, va_rf r2), (5, .int x5), (6, .int x6)] → w_J6_getChars_ba4f3_b104 G Q  r2 x5 x6 μ → W p l e { frames := 0, cells := 0, slots := 0, locals := 0 } s m args below meth c H locs (0) (0) (MQ below (mQ G (pI Q)) args s 0 0 (Ah G)) (F0 m 104 ls []) := by
    intro  r2 x5 x6 μ H locs ls hM hS hl h
    unfold w_J6_getChars_ba4f3_b104 at h
    refine lv_iload S.1 S.2.1 dJ6_getChars_ba4f3_104 (lv_at hl 2 rfl) ?_
    refine lv_if_eq (tgt := 118) S.1 S.2.1 dJ6_getChars_ba4f3_106 (by decide) (fun c10 => ?_) (fun c10 => ?_)
    · have h := h.1 c10
      exact hB118  x5 μ H locs ls hM hS (lv_sub hl [1] rfl) h
    · have h := h.2 c10
      refine mz_aload_n (x := r2) S.1 S.2.1 dJ6_getChars_ba4f3_109 rfl (lv_at hl 0 rfl) ?_
      refine lv_iinc (v := (x5 + (-1))) (lv' := [(5, .int (x5 + (-1))), (2, va_rf r2), (6, .int x6)]) S.1 S.2.1 dJ6_getChars_ba4f3_110 hl (k := 1) rfl rfl (by decide) rfl (fun ls hl => ?_)
      refine lv_iload S.1 S.2.1 dJ6_getChars_ba4f3_113 (lv_at hl 0 rfl) ?_
      refine lv_bipush (v := (nI 45)) S.1 S.2.1 dJ6_getChars_ba4f3_115 (by decide) ?_
      obtain ⟨a11, e12, h⟩ := h
      refine mz_o2 e12 ?_
      obtain ⟨k13, h⟩ := h
      obtain ⟨b14, h⟩ := h
      refine mz_bast S hG hM hS dJ6_getChars_ba4f3_117 k13 b14 (fun H locs hM hS hz9 => ?_)
      exact hB118  (x5 + (-1)) (sA μ a11 (x5 + (-1)).toNatClampNeg (vp_nar .byte (nI 45))) H locs ls hM hS (lv_sub hl [0] rfl) h
  have hB22 : ∀ (n : Nat) (x0 : Int32) (r2 : Option Nat) (x5 : Int32) (x6 : Int32) (μ : mmT) (H : Heap) (locs : List Loc) (ls : Array Slot), Mm G μ H → va_S (Ah G) s.heap H locs → lv_has ls 7 [(0, .int x0), (2, va_rf r2), (5, .int x5), (6, .int x6)] → w_J6_getChars_la4f3_l22 G Q  n x0 r2 x5 x6 μ → W p l e { frames := 0, cells := 0, slots := 0, locals := 0 } s m args below meth c H locs (0) (0) (MQ below (mQ G (pI Q)) args s 0 0 (Ah G)) (F0 m 22 ls []) := by
    intro  n
    induction n with
    | zero =>
      intro x0 r2 x5 x6 μ H locs ls hM hS hl h
      exact False.elim h
    | succ n ih =>
      intro x0 r2 x5 x6 μ H locs ls hM hS hl h
      have h : w_J6_getChars_ba4f3_b22 G Q  (w_J6_getChars_la4f3_l22 G Q  n) x0 r2 x5 x6 μ := h
      unfold w_J6_getChars_ba4f3_b22 at h
      refine lv_iload_n S.1 S.2.1 dJ6_getChars_ba4f3_22 rfl (lv_at hl 0 rfl) ?_
      refine lv_bipush (v := (-100)) S.1 S.2.1 dJ6_getChars_ba4f3_23 (by decide) ?_
      refine lv_icmp_gt (tgt := 72) S.1 S.2.1 dJ6_getChars_ba4f3_25 (by decide) (fun c3 => ?_) (fun c3 => ?_)
      · have h := h.1 c3
        refine mz_aload_n (x := r2) S.1 S.2.1 dJ6_getChars_ba4f3_72 rfl (lv_at hl 1 rfl) ?_
        refine lv_iinc (v := (x5 + (-1))) (lv' := [(5, .int (x5 + (-1))), (0, .int x0), (2, va_rf r2), (6, .int x6)]) S.1 S.2.1 dJ6_getChars_ba4f3_73 hl (k := 2) rfl rfl (by decide) rfl (fun ls hl => ?_)
        refine lv_iload S.1 S.2.1 dJ6_getChars_ba4f3_76 (lv_at hl 0 rfl) ?_
        refine va_gets S.1 S.2.1 (hG.one.1) hS S.2.2.2.1 (S.2.2.2.2 _ tw_925) (fun _ q => q) dJ6_getChars_ba4f3_78 ?_
        refine lv_iload_n S.1 S.2.1 dJ6_getChars_ba4f3_81 rfl (lv_at hl 1 rfl) ?_
        refine lv_ineg S.1 S.2.1 dJ6_getChars_ba4f3_82 ?_
        obtain ⟨b4, h⟩ := h
        refine va_tb S.1 S.2.1 (hG.one.2) hS b4 rfl dJ6_getChars_ba4f3_83 ?_
        obtain ⟨a5, e6, h⟩ := h
        refine mz_o2 e6 ?_
        obtain ⟨k7, h⟩ := h
        obtain ⟨b8, h⟩ := h
        refine mz_bast S hG hM hS dJ6_getChars_ba4f3_84 k7 b8 (fun H locs hM hS hz9 => ?_)
        refine lv_iload_n S.1 S.2.1 dJ6_getChars_ba4f3_85 rfl (lv_at hl 1 rfl) ?_
        refine lv_bipush (v := (-9)) S.1 S.2.1 dJ6_getChars_ba4f3_86 (by decide) ?_
        refine lv_icmp_ge (tgt := 104) S.1 S.2.1 dJ6_getChars_ba4f3_88 (by decide) (fun c9 => ?_) (fun c9 => ?_)
        · have h := h.1 c9
          exact hB104  r2 (x5 + (-1)) x6 (sA μ a5 (x5 + (-1)).toNatClampNeg (vp_nar .byte (gOne (-x0).toNatClampNeg))) H locs ls hM hS (lv_sub hl [2, 0, 3] rfl) h
        · have h := h.2 c9
          refine mz_aload_n (x := r2) S.1 S.2.1 dJ6_getChars_ba4f3_91 rfl (lv_at hl 2 rfl) ?_
          refine lv_iinc (v := ((x5 + (-1)) + (-1))) (lv' := [(5, .int ((x5 + (-1)) + (-1))), (0, .int x0), (2, va_rf r2), (6, .int x6)]) S.1 S.2.1 dJ6_getChars_ba4f3_92 hl (k := 0) rfl rfl (by decide) rfl (fun ls hl => ?_)
          refine lv_iload S.1 S.2.1 dJ6_getChars_ba4f3_95 (lv_at hl 0 rfl) ?_
          refine va_gets S.1 S.2.1 (hG.ten.1) hS S.2.2.2.1 (S.2.2.2.2 _ tw_927) (fun _ q => q) dJ6_getChars_ba4f3_97 ?_
          refine lv_iload_n S.1 S.2.1 dJ6_getChars_ba4f3_100 rfl (lv_at hl 1 rfl) ?_
          refine lv_ineg S.1 S.2.1 dJ6_getChars_ba4f3_101 ?_
          obtain ⟨b15, h⟩ := h
          refine va_tb S.1 S.2.1 (hG.ten.2) hS b15 rfl dJ6_getChars_ba4f3_102 ?_
          refine mz_o2 e6 ?_
          obtain ⟨b16, h⟩ := h
          refine mz_bast S hG hM hS dJ6_getChars_ba4f3_103 k7 b16 (fun H locs hM hS hz9 => ?_)
          exact hB104  r2 ((x5 + (-1)) + (-1)) x6 (sA (sA μ a5 (x5 + (-1)).toNatClampNeg (vp_nar .byte (gOne (-x0).toNatClampNeg))) a5 ((x5 + (-1)) + (-1)).toNatClampNeg (vp_nar .byte (gTen (-x0).toNatClampNeg))) H locs ls hM hS (lv_sub hl [2, 0, 3] rfl) h
      · have h := h.2 c3
        refine lv_iload_n S.1 S.2.1 dJ6_getChars_ba4f3_28 rfl (lv_at hl 0 rfl) ?_
        refine lv_bipush (v := (nI 100)) S.1 S.2.1 dJ6_getChars_ba4f3_29 (by decide) ?_
        refine lv_idiv S.1 S.2.1 dJ6_getChars_ba4f3_31 (by decide) ?_
        refine lv_istore_n (i := 3) (lv' := [(3, .int (x0 / (nI 100))), (0, .int x0), (2, va_rf r2), (5, .int x5), (6, .int x6)]) S.1 S.2.1 dJ6_getChars_ba4f3_32 rfl hl (by decide) (by simp [List.filter, mz_cat]) (fun ls hl => ?_)
        refine lv_iload_n S.1 S.2.1 dJ6_getChars_ba4f3_33 rfl (lv_at hl 0 rfl) ?_
        refine lv_bipush (v := (nI 100)) S.1 S.2.1 dJ6_getChars_ba4f3_34 (by decide) ?_
        refine lv_imul S.1 S.2.1 dJ6_getChars_ba4f3_36 ?_
        refine lv_iload_n S.1 S.2.1 dJ6_getChars_ba4f3_37 rfl (lv_at hl 1 rfl) ?_
        refine lv_isub S.1 S.2.1 dJ6_getChars_ba4f3_38 ?_
        refine lv_istore (lv' := [(4, .int (((x0 / (nI 100)) * (nI 100)) - x0)), (3, .int (x0 / (nI 100))), (0, .int x0), (2, va_rf r2), (5, .int x5), (6, .int x6)]) S.1 S.2.1 dJ6_getChars_ba4f3_39 hl (by decide) rfl (fun ls hl => ?_)
        refine lv_iload_n S.1 S.2.1 dJ6_getChars_ba4f3_41 rfl (lv_at hl 1 rfl) ?_
        refine lv_istore_n (lv' := [(0, .int (x0 / (nI 100))), (4, .int (((x0 / (nI 100)) * (nI 100)) - x0)), (3, .int (x0 / (nI 100))), (2, va_rf r2), (5, .int x5), (6, .int x6)]) S.1 S.2.1 dJ6_getChars_ba4f3_42 rfl hl (by decide) rfl (fun ls hl => ?_)
        refine mz_aload_n (x := r2) S.1 S.2.1 dJ6_getChars_ba4f3_43 rfl (lv_at hl 3 rfl) ?_
        refine lv_iinc (v := (x5 + (-1))) (lv' := [(5, .int (x5 + (-1))), (0, .int (x0 / (nI 100))), (4, .int (((x0 / (nI 100)) * (nI 100)) - x0)), (3, .int (x0 / (nI 100))), (2, va_rf r2), (6, .int x6)]) S.1 S.2.1 dJ6_getChars_ba4f3_44 hl (k := 4) rfl rfl (by decide) rfl (fun ls hl => ?_)
        refine lv_iload S.1 S.2.1 dJ6_getChars_ba4f3_47 (lv_at hl 0 rfl) ?_
        refine va_gets S.1 S.2.1 (hG.one.1) hS S.2.2.2.1 (S.2.2.2.2 _ tw_925) (fun _ q => q) dJ6_getChars_ba4f3_49 ?_
        refine lv_iload S.1 S.2.1 dJ6_getChars_ba4f3_52 (lv_at hl 2 rfl) ?_
        obtain ⟨b18, h⟩ := h
        refine va_tb S.1 S.2.1 (hG.one.2) hS b18 rfl dJ6_getChars_ba4f3_54 ?_
        obtain ⟨a19, e20, h⟩ := h
        refine mz_o2 e20 ?_
        obtain ⟨k21, h⟩ := h
        obtain ⟨b22, h⟩ := h
        refine mz_bast S hG hM hS dJ6_getChars_ba4f3_55 k21 b22 (fun H locs hM hS hz9 => ?_)
        refine mz_aload_n (x := r2) S.1 S.2.1 dJ6_getChars_ba4f3_56 rfl (lv_at hl 4 rfl) ?_
        refine lv_iinc (v := ((x5 + (-1)) + (-1))) (lv' := [(5, .int ((x5 + (-1)) + (-1))), (0, .int (x0 / (nI 100))), (4, .int (((x0 / (nI 100)) * (nI 100)) - x0)), (3, .int (x0 / (nI 100))), (2, va_rf r2), (6, .int x6)]) S.1 S.2.1 dJ6_getChars_ba4f3_57 hl (k := 0) rfl rfl (by decide) rfl (fun ls hl => ?_)
        refine lv_iload S.1 S.2.1 dJ6_getChars_ba4f3_60 (lv_at hl 0 rfl) ?_
        refine va_gets S.1 S.2.1 (hG.ten.1) hS S.2.2.2.1 (S.2.2.2.2 _ tw_927) (fun _ q => q) dJ6_getChars_ba4f3_62 ?_
        refine lv_iload S.1 S.2.1 dJ6_getChars_ba4f3_65 (lv_at hl 2 rfl) ?_
        obtain ⟨b23, h⟩ := h
        refine va_tb S.1 S.2.1 (hG.ten.2) hS b23 rfl dJ6_getChars_ba4f3_67 ?_
        refine mz_o2 e20 ?_
        obtain ⟨b24, h⟩ := h
        refine mz_bast S hG hM hS dJ6_getChars_ba4f3_68 k21 b24 (fun H locs hM hS hz9 => ?_)
        refine lv_goto (tgt := 22) S.1 S.2.1 dJ6_getChars_ba4f3_69 (by decide) ?_
        exact ih (x0 / (nI 100)) r2 ((x5 + (-1)) + (-1)) x6 (sA (sA μ a19 (x5 + (-1)).toNatClampNeg (vp_nar .byte (gOne (((x0 / (nI 100)) * (nI 100)) - x0).toNatClampNeg))) a19 ((x5 + (-1)) + (-1)).toNatClampNeg (vp_nar .byte (gTen (((x0 / (nI 100)) * (nI 100)) - x0).toNatClampNeg))) H locs ls hM hS (lv_sub hl [1, 4, 0, 5] rfl) h
  have hB12 : ∀ (x0 : Int32) (r2 : Option Nat) (x5 : Int32) (s0 : Int32) (μ : mmT) (H : Heap) (locs : List Loc) (ls : Array Slot), Mm G μ H → va_S (Ah G) s.heap H locs → lv_has ls 7 [(0, .int x0), (2, va_rf r2), (5, .int x5)] → w_J6_getChars_ba4f3_b12 G Q  x0 r2 x5 s0 μ → W p l e { frames := 0, cells := 0, slots := 0, locals := 0 } s m args below meth c H locs (0) (0) (MQ below (mQ G (pI Q)) args s 0 0 (Ah G)) (F0 m 12 ls [.int s0]) := by
    intro  x0 r2 x5 s0 μ H locs ls hM hS hl h
    unfold w_J6_getChars_ba4f3_b12 at h
    refine lv_istore (lv' := [(6, .int s0), (0, .int x0), (2, va_rf r2), (5, .int x5)]) S.1 S.2.1 dJ6_getChars_ba4f3_12 hl (by decide) rfl (fun ls hl => ?_)
    refine lv_iload S.1 S.2.1 dJ6_getChars_ba4f3_14 (lv_at hl 0 rfl) ?_
    refine lv_if_ne (tgt := 22) S.1 S.2.1 dJ6_getChars_ba4f3_16 (by decide) (fun c2 => ?_) (fun c2 => ?_)
    · have h := h.1 c2
      obtain ⟨n9, h⟩ := h
      exact hB22  n9 x0 r2 x5 s0 μ H locs ls hM hS (lv_sub hl [1, 2, 3, 0] rfl) h
    · have h := h.2 c2
      refine lv_iload_n S.1 S.2.1 dJ6_getChars_ba4f3_19 rfl (lv_at hl 1 rfl) ?_
      refine lv_ineg S.1 S.2.1 dJ6_getChars_ba4f3_20 ?_
      refine lv_istore_n (lv' := [(0, .int (-x0)), (6, .int s0), (2, va_rf r2), (5, .int x5)]) S.1 S.2.1 dJ6_getChars_ba4f3_21 rfl hl (by decide) rfl (fun ls hl => ?_)
      obtain ⟨n9, h⟩ := h
      exact hB22  n9 (-x0) r2 x5 s0 μ H locs ls hM hS (lv_sub hl [0, 2, 3, 1] rfl) h
  intro H locs ls hM hS hl
  have hl : lv_has ls 7 [(0, .int x0), (1, .int x1), (2, va_rf r2)] := by simpa [lv_args, mz_cat, mz_cr, mz_ci, mz_cl, mz_cf, mz_cd, mz_cn] using hl
  unfold w_J6_getChars_ba4f3 at h
  refine lv_iload_n S.1 S.2.1 dJ6_getChars_ba4f3_0 rfl (lv_at hl 1 rfl) ?_
  refine lv_istore (lv' := [(5, .int x1), (0, .int x0), (1, .int x1), (2, va_rf r2)]) S.1 S.2.1 dJ6_getChars_ba4f3_1 hl (by decide) rfl (fun ls hl => ?_)
  refine lv_iload_n S.1 S.2.1 dJ6_getChars_ba4f3_3 rfl (lv_at hl 1 rfl) ?_
  refine lv_if_ge (tgt := 11) S.1 S.2.1 dJ6_getChars_ba4f3_4 (by decide) (fun c1 => ?_) (fun c1 => ?_)
  · have h := h.1 c1
    refine lv_iconst (v := (nI 0)) S.1 S.2.1 dJ6_getChars_ba4f3_11 (by decide) ?_
    exact hB12  x0 r2 x1 (nI 0) μ H locs ls hM hS (lv_sub hl [1, 3, 0] rfl) h
  · have h := h.2 c1
    refine lv_iconst (v := (nI 1)) S.1 S.2.1 dJ6_getChars_ba4f3_7 (by decide) ?_
    refine lv_goto (tgt := 12) S.1 S.2.1 dJ6_getChars_ba4f3_8 (by decide) ?_
    exact hB12  x0 r2 x1 (nI 1) μ H locs ls hM hS (lv_sub hl [1, 3, 0] rfl) h
set_option maxRecDepth 100000 in
set_option maxHeartbeats 4000000 in
theorem c_J5_append_c97b9 {l : Launch} {G : mgT} {μ : mmT} {o : Nat} {x1 : Int32} {Q : Option Nat → mmT → Prop} (h : w_J5_append_c97b9 G μ o x1 Q) : MC G l yJ5_append_c97b9 cJ5_append_c97b9 4 (some (.object "java/lang/AbstractStringBuilder")) { frames := 1, cells := 0, slots := 0, locals := 26 } [.ref o, .int x1] μ (pR Q) := by
  refine mz_MC (by decide +kernel) (Nat.le_of_ble_eq_true rfl) (fun p e s m args below meth c S hG hr hlk hnm => ?_)
  intro H locs ls hM hS hl
  have hl : lv_has ls 4 [(0, .ref o), (1, .int x1)] := hl
  unfold w_J5_append_c97b9 at h
  refine lv_aload_n S.1 S.2.1 dJ5_append_c97b9_0 rfl (lv_at hl 0 rfl) ?_
  obtain ⟨k1, h⟩ := h
  refine mz_geti S hG hM cf_0 fd_3 tw_332 dJ5_append_c97b9_1 k1 ?_
  refine lv_istore_n (lv' := [(2, .int (mI μ 3 o)), (0, .ref o), (1, .int x1)]) S.1 S.2.1 dJ5_append_c97b9_4 rfl hl (by decide) rfl (fun ls hl => ?_)
  refine lv_iload_n S.1 S.2.1 dJ5_append_c97b9_5 rfl (lv_at hl 0 rfl) ?_
  refine lv_iload_n S.1 S.2.1 dJ5_append_c97b9_6 rfl (lv_at hl 2 rfl) ?_
  refine mz_S S hG hM hS (As := [.int x1]) (rest := [.int (mI μ 3 o)]) (c_J6_stringSize_0f7a4 h) yf_J6_stringSize_0f7a4 tw_919 tw_920 ⟨Nat.le_of_ble_eq_true rfl, Nat.le_of_ble_eq_true rfl⟩ ⟨(Nat.le_of_ble_eq_true rfl), (Nat.le_of_ble_eq_true rfl)⟩ rfl hl.1 rfl (Nat.le_of_ble_eq_true rfl) dJ5_append_c97b9_7 (fun v9 μ9 H locs hp hM hS => ?_)
  obtain ⟨u2, rfl, e9, h⟩ := hp
  rw [e9] at hM
  refine W.cs (cells' := 0) (slots' := 0) rfl rfl ?_
  refine lv_iadd S.1 S.2.1 dJ5_append_c97b9_10 ?_
  refine lv_istore_n (lv' := [(3, .int ((mI μ 3 o) + u2)), (2, .int (mI μ 3 o)), (0, .ref o), (1, .int x1)]) S.1 S.2.1 dJ5_append_c97b9_11 rfl hl (by decide) rfl (fun ls hl => ?_)
  refine lv_aload_n S.1 S.2.1 dJ5_append_c97b9_12 rfl (lv_at hl 2 rfl) ?_
  refine lv_iload_n S.1 S.2.1 dJ5_append_c97b9_13 rfl (lv_at hl 0 rfl) ?_
  refine mz_V0 S hG hM hS (mz_recv hG hM cf_0 k1) (As := [.int ((mI μ 3 o) + u2)]) (rest := []) (c_J5_ensureCapacityInternal_d00df h) yf_J5_ensureCapacityInternal_d00df tw_805 tw_807 (S.2.2.2.2 _ (TT_x (i := 0) rfl (by decide +kernel))) ⟨Nat.le_of_ble_eq_true rfl, Nat.le_of_ble_eq_true rfl⟩ ⟨(Nat.le_of_ble_eq_true rfl), (Nat.le_of_ble_eq_true rfl)⟩ rfl hl.1 rfl (Nat.le_of_ble_eq_true rfl) dJ5_append_c97b9_14 (fun v9 μ9 H locs hp hM hS => ?_)
  obtain ⟨rfl, e9, h⟩ := hp
  rw [e9] at hM
  refine W.cs (cells' := 0) (slots' := 0) rfl rfl ?_
  refine lv_aload_n S.1 S.2.1 dJ5_append_c97b9_17 rfl (lv_at hl 2 rfl) ?_
  refine mz_V S hG hM hS cf_0 k1 (As := []) (rest := []) (c_J5_isLatin1_aae02 h) yf_J5_isLatin1_aae02 tw_838 tw_839 tw_841 ⟨Nat.le_of_ble_eq_true rfl, Nat.le_of_ble_eq_true rfl⟩ ⟨(Nat.le_of_ble_eq_true rfl), (Nat.le_of_ble_eq_true rfl)⟩ rfl hl.1 rfl (Nat.le_of_ble_eq_true rfl) dJ5_append_c97b9_18 (fun v9 μ9 H locs hp hM hS => ?_)
  obtain ⟨u3, rfl, e9, h⟩ := hp
  rw [e9] at hM
  refine W.cs (cells' := 0) (slots' := 0) rfl rfl ?_
  obtain ⟨c4, h⟩ := h
  refine lv_if_eq (tgt := 37) S.1 S.2.1 dJ5_append_c97b9_21 (by decide) (fun c => absurd c c4) (fun _ => ?_)
  refine lv_iload_n S.1 S.2.1 dJ5_append_c97b9_24 rfl (lv_at hl 3 rfl) ?_
  refine lv_iload_n S.1 S.2.1 dJ5_append_c97b9_25 rfl (lv_at hl 0 rfl) ?_
  refine lv_aload_n S.1 S.2.1 dJ5_append_c97b9_26 rfl (lv_at hl 2 rfl) ?_
  refine mz_getr S hG hM cf_0 fd_0 tw_329 dJ5_append_c97b9_27 k1 ?_
  refine mz_S S hG hM hS (As := [.int x1, .int ((mI μ 3 o) + u2), va_rf (mR μ 0 o)]) (rest := []) (c_J6_getChars_ba4f3 h) yf_J6_getChars_ba4f3 tw_922 tw_923 ⟨Nat.le_of_ble_eq_true rfl, Nat.le_of_ble_eq_true rfl⟩ ⟨(Nat.le_of_ble_eq_true rfl), (Nat.le_of_ble_eq_true rfl)⟩ rfl hl.1 rfl (Nat.le_of_ble_eq_true rfl) dJ5_append_c97b9_30 (fun v9 μ6 H locs hp hM hS => ?_)
  obtain ⟨u5, rfl, h⟩ := hp
  refine W.cs (cells' := 0) (slots' := 0) rfl rfl ?_
  refine lv_pop S.1 S.2.1 dJ5_append_c97b9_33 rfl ?_
  refine lv_goto (tgt := 48) S.1 S.2.1 dJ5_append_c97b9_34 (by decide) ?_
  refine lv_aload_n S.1 S.2.1 dJ5_append_c97b9_48 rfl (lv_at hl 2 rfl) ?_
  refine lv_iload_n S.1 S.2.1 dJ5_append_c97b9_49 rfl (lv_at hl 0 rfl) ?_
  obtain ⟨k7, h⟩ := h
  refine mz_puti S hG hM hS cf_0 fd_3 tw_332 dJ5_append_c97b9_50 k7 rfl rfl (fun H locs hM hS hz9 => ?_)
  refine lv_aload_n S.1 S.2.1 dJ5_append_c97b9_53 rfl (lv_at hl 2 rfl) ?_
  exact mz_aret (x := (some o)) S hr (by first | exact Or.inl ⟨_, rfl⟩ | exact Or.inr ⟨_, rfl⟩) hlk hM hS (Nat.le_of_ble_eq_true rfl) (Nat.le_of_ble_eq_true rfl) dJ5_append_c97b9_54 ⟨_, rfl, h⟩
set_option maxRecDepth 100000 in
set_option maxHeartbeats 4000000 in
theorem c_J4_append_bf812 {l : Launch} {G : mgT} {μ : mmT} {o : Nat} {x1 : Int32} {Q : Option Nat → mmT → Prop} (h : w_J4_append_bf812 G μ o x1 Q) : MC G l yJ4_append_bf812 cJ4_append_bf812 2 (some (.object "java/lang/StringBuilder")) { frames := 2, cells := 0, slots := 0, locals := 49 } [.ref o, .int x1] μ (pR Q) := by
  refine mz_MC (by decide +kernel) (Nat.le_of_ble_eq_true rfl) (fun p e s m args below meth c S hG hr hlk hnm => ?_)
  intro H locs ls hM hS hl
  have hl : lv_has ls 2 [(0, .ref o), (1, .int x1)] := hl
  unfold w_J4_append_bf812 at h
  refine lv_aload_n S.1 S.2.1 dJ4_append_bf812_0 rfl (lv_at hl 0 rfl) ?_
  refine lv_iload_n S.1 S.2.1 dJ4_append_bf812_1 rfl (lv_at hl 1 rfl) ?_
  obtain ⟨k1, h⟩ := h
  refine mz_SU S hG hM hS cf_0 k1 (As := [.int x1]) (rest := []) (c_J5_append_c97b9 h) yf_J5_append_c97b9 tw_916 tw_1437 tw_341 tw_917 (by decide) ⟨Nat.le_of_ble_eq_true rfl, Nat.le_of_ble_eq_true rfl⟩ ⟨(Nat.le_of_ble_eq_true rfl), (Nat.le_of_ble_eq_true rfl)⟩ rfl hl.1 rfl (Nat.le_of_ble_eq_true rfl) dJ4_append_bf812_2 (fun v9 μ3 H locs hp hM hS => ?_)
  obtain ⟨ru2, rfl, h⟩ := hp
  refine W.cs (cells' := 0) (slots' := 0) rfl rfl ?_
  refine lv_pop S.1 S.2.1 dJ4_append_bf812_5 (mz_cat _) ?_
  refine lv_aload_n S.1 S.2.1 dJ4_append_bf812_6 rfl (lv_at hl 0 rfl) ?_
  exact mz_aret (x := (some o)) S hr (by first | exact Or.inl ⟨_, rfl⟩ | exact Or.inr ⟨_, rfl⟩) hlk hM hS (Nat.le_of_ble_eq_true rfl) (Nat.le_of_ble_eq_true rfl) dJ4_append_bf812_7 ⟨_, rfl, h⟩
set_option maxRecDepth 100000 in
set_option maxHeartbeats 4000000 in
theorem c_J5_getValue_6d5f1 {l : Launch} {G : mgT} {μ : mmT} {o : Nat} {Q : Option Nat → Prop} (h : w_J5_getValue_6d5f1 G μ o Q) : MC G l yJ5_getValue_6d5f1 cJ5_getValue_6d5f1 1 (some (.array .byte)) { frames := 0, cells := 0, slots := 0, locals := 0 } [.ref o] μ (pR (fun r μ' => μ' = μ ∧ Q r)) := by
  refine mz_MC (by decide +kernel) (Nat.le_of_ble_eq_true rfl) (fun p e s m args below meth c S hG hr hlk hnm => ?_)
  intro H locs ls hM hS hl
  have hl : lv_has ls 1 [(0, .ref o)] := hl
  unfold w_J5_getValue_6d5f1 at h
  refine lv_aload_n S.1 S.2.1 dJ5_getValue_6d5f1_0 rfl (lv_at hl 0 rfl) ?_
  obtain ⟨k1, h⟩ := h
  refine mz_getr S hG hM cf_0 fd_0 tw_329 dJ5_getValue_6d5f1_1 k1 ?_
  exact mz_aret (x := (mR μ 0 o)) S hr (by first | exact Or.inl ⟨_, rfl⟩ | exact Or.inr ⟨_, rfl⟩) hlk hM hS (Nat.le_of_ble_eq_true rfl) (Nat.le_of_ble_eq_true rfl) dJ5_getValue_6d5f1_4 ⟨_, rfl, rfl, h⟩
set_option maxRecDepth 100000 in
set_option maxHeartbeats 4000000 in
theorem c_J5_length_8abf5 {l : Launch} {G : mgT} {μ : mmT} {o : Nat} {Q : Int32 → Prop} (h : w_J5_length_8abf5 G μ o Q) : MC G l yJ5_length_8abf5 cJ5_length_8abf5 1 (some .int) { frames := 0, cells := 0, slots := 0, locals := 0 } [.ref o] μ (pI (fun r μ' => μ' = μ ∧ Q r)) := by
  refine mz_MC (by decide +kernel) (Nat.le_of_ble_eq_true rfl) (fun p e s m args below meth c S hG hr hlk hnm => ?_)
  intro H locs ls hM hS hl
  have hl : lv_has ls 1 [(0, .ref o)] := hl
  unfold w_J5_length_8abf5 at h
  refine lv_aload_n S.1 S.2.1 dJ5_length_8abf5_0 rfl (lv_at hl 0 rfl) ?_
  obtain ⟨k1, h⟩ := h
  refine mz_geti S hG hM cf_0 fd_3 tw_332 dJ5_length_8abf5_1 k1 ?_
  exact mz_iret S hr hlk hM hS rfl (Nat.le_of_ble_eq_true rfl) (Nat.le_of_ble_eq_true rfl) dJ5_length_8abf5_4 ⟨_, rfl, rfl, h⟩
set_option maxRecDepth 100000 in
set_option maxHeartbeats 4000000 in
theorem c_J4_length_8abf5 {l : Launch} {G : mgT} {μ : mmT} {o : Nat} {Q : Int32 → Prop} (h : w_J4_length_8abf5 G μ o Q) : MC G l yJ4_length_8abf5 cJ4_length_8abf5 1 (some .int) { frames := 1, cells := 0, slots := 0, locals := 20 } [.ref o] μ (pI (fun r μ' => μ' = μ ∧ Q r)) := by
  refine mz_MC (by decide +kernel) (Nat.le_of_ble_eq_true rfl) (fun p e s m args below meth c S hG hr hlk hnm => ?_)
  intro H locs ls hM hS hl
  have hl : lv_has ls 1 [(0, .ref o)] := hl
  unfold w_J4_length_8abf5 at h
  refine lv_aload_n S.1 S.2.1 dJ4_length_8abf5_0 rfl (lv_at hl 0 rfl) ?_
  obtain ⟨k1, h⟩ := h
  refine mz_SU S hG hM hS cf_0 k1 (As := []) (rest := []) (c_J5_length_8abf5 h) yf_J5_length_8abf5 tw_962 tw_958 tw_341 tw_957 (by decide) ⟨Nat.le_of_ble_eq_true rfl, Nat.le_of_ble_eq_true rfl⟩ ⟨(Nat.le_of_ble_eq_true rfl), (Nat.le_of_ble_eq_true rfl)⟩ rfl hl.1 rfl (Nat.le_of_ble_eq_true rfl) dJ4_length_8abf5_1 (fun v9 μ9 H locs hp hM hS => ?_)
  obtain ⟨u2, rfl, e9, h⟩ := hp
  rw [e9] at hM
  refine W.cs (cells' := 0) (slots' := 0) rfl rfl ?_
  exact mz_iret S hr hlk hM hS rfl (Nat.le_of_ble_eq_true rfl) (Nat.le_of_ble_eq_true rfl) dJ4_length_8abf5_4 ⟨_, rfl, rfl, h⟩
set_option maxRecDepth 100000 in
set_option maxHeartbeats 4000000 in
theorem c_J7_checkLength_df160 {l : Launch} {G : mgT} {μ : mmT} {x0 : Int32} {x1 : Int32} {Q : Prop} (h : w_J7_checkLength_df160 G μ x0 x1 Q) : MC G l yJ7_checkLength_df160 cJ7_checkLength_df160 2 none { frames := 0, cells := 0, slots := 0, locals := 0 } [.int x0, .int x1] μ (pV (fun μ' => μ' = μ ∧ Q)) := by
  refine mz_MC (by decide +kernel) (Nat.le_of_ble_eq_true rfl) (fun p e s m args below meth c S hG hr hlk hnm => ?_)
  intro H locs ls hM hS hl
  have hl : lv_has ls 2 [(0, .int x0), (1, .int x1)] := hl
  unfold w_J7_checkLength_df160 at h
  refine lv_iload_n S.1 S.2.1 dJ7_checkLength_df160_0 rfl (lv_at hl 1 rfl) ?_
  refine lv_iload_n S.1 S.2.1 dJ7_checkLength_df160_1 rfl (lv_at hl 0 rfl) ?_
  obtain ⟨c1, h⟩ := h
  refine lv_icmp_ge (tgt := 37) S.1 S.2.1 dJ7_checkLength_df160_2 (by decide) (fun _ => ?_) (fun c => absurd c1 c)
  exact mz_vret S hr hlk hM hS (Nat.le_of_ble_eq_true rfl) (Nat.le_of_ble_eq_true rfl) dJ7_checkLength_df160_37 ⟨rfl, rfl, h⟩
set_option maxRecDepth 100000 in
set_option maxHeartbeats 4000000 in
theorem c_J7_copyOfRangeByte_39247 {l : Launch} {G : mgT} {μ : mmT} {r0 : Option Nat} {x1 : Int32} {x2 : Int32} {Q : Option Nat → mmT → Prop} (h : w_J7_copyOfRangeByte_39247 G μ r0 x1 x2 Q) : MC G l yJ7_copyOfRangeByte_39247 cJ7_copyOfRangeByte_39247 5 (some (.array .byte)) { frames := 1, cells := 1, slots := 16, locals := 60 } [va_rf r0, .int x1, .int x2] μ (pR Q) := by
  refine mz_MC (by decide +kernel) (by simp [lg_sl, mz_cat, mz_cr, mz_ci, mz_cl, mz_cf, mz_cd, mz_cn]) (fun p e s m args below meth c S hG hr hlk hnm => ?_)
  intro H locs ls hM hS hl
  have hl : lv_has ls 5 [(0, va_rf r0), (1, .int x1), (2, .int x2)] := by simpa [lv_args, mz_cat, mz_cr, mz_ci, mz_cl, mz_cf, mz_cd, mz_cn] using hl
  unfold w_J7_copyOfRangeByte_39247 at h
  refine lv_iload_n S.1 S.2.1 dJ7_copyOfRangeByte_39247_0 rfl (lv_at hl 1 rfl) ?_
  refine lv_iload_n S.1 S.2.1 dJ7_copyOfRangeByte_39247_1 rfl (lv_at hl 2 rfl) ?_
  refine mz_S S hG hM hS (As := [.int x1, .int x2]) (rest := []) (c_J7_checkLength_df160 h) yf_J7_checkLength_df160 tw_971 tw_972 ⟨Nat.le_of_ble_eq_true rfl, Nat.le_of_ble_eq_true rfl⟩ ⟨(Nat.le_of_ble_eq_true rfl), (Nat.le_of_ble_eq_true rfl)⟩ rfl hl.1 rfl (Nat.le_of_ble_eq_true rfl) dJ7_copyOfRangeByte_39247_2 (fun v9 μ9 H locs hp hM hS => ?_)
  obtain ⟨rfl, e9, h⟩ := hp
  rw [e9] at hM
  refine W.cs (cells' := 0) (slots' := 0) rfl rfl ?_
  refine lv_iload_n S.1 S.2.1 dJ7_copyOfRangeByte_39247_5 rfl (lv_at hl 2 rfl) ?_
  refine lv_iload_n S.1 S.2.1 dJ7_copyOfRangeByte_39247_6 rfl (lv_at hl 1 rfl) ?_
  refine lv_isub S.1 S.2.1 dJ7_copyOfRangeByte_39247_7 ?_
  refine lv_istore_n (lv' := [(3, .int (x2 - x1)), (0, va_rf r0), (1, .int x1), (2, .int x2)]) S.1 S.2.1 dJ7_copyOfRangeByte_39247_8 rfl hl (by decide) rfl (fun ls hl => ?_)
  refine lv_iload_n S.1 S.2.1 dJ7_copyOfRangeByte_39247_9 rfl (lv_at hl 0 rfl) ?_
  obtain ⟨zz1, hz⟩ : ∃ z9 : Nat, H.size = z9 := ⟨_, rfl⟩
  have h := h zz1 (fun a9 q9 => by rw [← hz]; exact (hM a9 q9).2.1)
  have hg : gh G ≤ zz1 := by rw [← hz]; exact Nat.le_trans hG.low hS.1
  obtain ⟨g2, b3, h⟩ := h
  refine mz_newb S hG hM hS hz hg tw_342 g2 b3 (Nat.le_of_ble_eq_true rfl) (Nat.le_of_ble_eq_true rfl) dJ7_copyOfRangeByte_39247_10 (fun H hM hS hz => ?_)
  have hg := Nat.le_succ_of_le hg
  refine W.cs (cells' := 1) (slots' := 16) rfl rfl ?_
  refine lv_astore (lv' := [(4, .ref zz1), (3, .int (x2 - x1)), (0, va_rf r0), (1, .int x1), (2, .int x2)]) S.1 S.2.1 dJ7_copyOfRangeByte_39247_12 hl (by decide) rfl (fun ls hl => ?_)
  refine mz_aload_n (x := r0) S.1 S.2.1 dJ7_copyOfRangeByte_39247_14 rfl (lv_at hl 2 rfl) ?_
  refine lv_iload_n S.1 S.2.1 dJ7_copyOfRangeByte_39247_15 rfl (lv_at hl 3 rfl) ?_
  refine lv_aload S.1 S.2.1 dJ7_copyOfRangeByte_39247_16 (lv_at hl 0 rfl) ?_
  refine lv_iconst (v := (nI 0)) S.1 S.2.1 dJ7_copyOfRangeByte_39247_18 (by decide) ?_
  refine mz_aload_n (x := r0) S.1 S.2.1 dJ7_copyOfRangeByte_39247_19 rfl (lv_at hl 2 rfl) ?_
  obtain ⟨a4, e5, h⟩ := h
  refine mz_o0 e5 ?_
  obtain ⟨k6, h⟩ := h
  refine mz_alen (j := 0) S hG hM dJ7_copyOfRangeByte_39247_20 k6 ?_
  refine lv_iload_n S.1 S.2.1 dJ7_copyOfRangeByte_39247_21 rfl (lv_at hl 3 rfl) ?_
  refine lv_isub S.1 S.2.1 dJ7_copyOfRangeByte_39247_22 ?_
  refine lv_iload_n S.1 S.2.1 dJ7_copyOfRangeByte_39247_23 rfl (lv_at hl 1 rfl) ?_
  refine va_mmin S.1 S.2.1 (S.2.2.1.trans hl.1.symm) S.2.2.2.1 (S.2.2.2.2 _ tw_834) (S.2.2.2.2 _ tw_835) (S.2.2.2.2 _ tw_26) (S.2.2.2.2 _ tw_836) (Nat.le_of_ble_eq_true rfl) (by simp [mz_cat, mz_cr, mz_ci, mz_cl, mz_cf, mz_cd, mz_cn]) (Nat.le_of_ble_eq_true rfl) (Nat.le_of_ble_eq_true rfl) dJ7_copyOfRangeByte_39247_24 ?_
  refine mz_o4 e5 ?_
  obtain ⟨k7, h⟩ := h
  obtain ⟨g8, h⟩ := h
  obtain ⟨g9, h⟩ := h
  obtain ⟨b10, b11, h⟩ := h
  obtain ⟨f12, h⟩ := h
  refine mz_copyB S hG hM hS hl.1 tw_837 tw_549 tw_548 tw_23 k6 k7 g8 (by decide) g9 b10 b11 f12 (Nat.le_of_ble_eq_true rfl) (Nat.le_of_ble_eq_true rfl) dJ7_copyOfRangeByte_39247_27 (fun H locs hM hS hz9 => ?_)
  have hz := hz9.trans hz
  refine lv_aload S.1 S.2.1 dJ7_copyOfRangeByte_39247_30 (lv_at hl 0 rfl) ?_
  exact mz_aret (x := (some zz1)) S hr (by first | exact Or.inl ⟨_, rfl⟩ | exact Or.inr ⟨_, rfl⟩) hlk hM hS (Nat.le_of_ble_eq_true rfl) (Nat.le_of_ble_eq_true rfl) dJ7_copyOfRangeByte_39247_32 ⟨_, rfl, h⟩

set_option maxRecDepth 100000 in
set_option maxHeartbeats 4000000 in
theorem c_J5_charAt_5068e {l : Launch} {G : mgT} {μ : mmT} {o : Nat} {x1 : Int32} {Q : Int32 → Prop} (h : w_J5_charAt_5068e G μ o x1 Q) : MC G l yJ5_charAt_5068e cJ5_charAt_5068e 5 (some .char) { frames := 2, cells := 0, slots := 0, locals := 43 } [.ref o, .int x1] μ (pI (fun r μ' => μ' = μ ∧ Q r)) := by
  refine mz_MC (by decide +kernel) (Nat.le_of_ble_eq_true rfl) (fun p e s m args below meth c S hG hr hlk hnm => ?_)
  intro H locs ls hM hS hl
  have hl : lv_has ls 5 [(0, .ref o), (1, .int x1)] := hl
  unfold w_J5_charAt_5068e at h
  refine lv_aload_n S.1 S.2.1 dJ5_charAt_5068e_0 rfl (lv_at hl 0 rfl) ?_
  obtain ⟨k1, h⟩ := h
  refine mz_geti S hG hM cf_0 fd_1 tw_333 dJ5_charAt_5068e_1 k1 ?_
  refine lv_istore_n (lv' := [(2, .int (mI μ 1 o)), (0, .ref o), (1, .int x1)]) S.1 S.2.1 dJ5_charAt_5068e_4 rfl hl (by decide) rfl (fun ls hl => ?_)
  refine lv_aload_n S.1 S.2.1 dJ5_charAt_5068e_5 rfl (lv_at hl 1 rfl) ?_
  refine mz_getr S hG hM cf_0 fd_0 tw_332 dJ5_charAt_5068e_6 k1 ?_
  refine mz_astore_n (x := (mR μ 0 o)) (lv' := [(3, va_rf (mR μ 0 o)), (2, .int (mI μ 1 o)), (0, .ref o), (1, .int x1)]) S.1 S.2.1 dJ5_charAt_5068e_9 rfl hl (by decide) rfl (fun ls hl => ?_)
  refine lv_aload_n S.1 S.2.1 dJ5_charAt_5068e_10 rfl (lv_at hl 2 rfl) ?_
  refine mz_geti S hG hM cf_0 fd_3 tw_336 dJ5_charAt_5068e_11 k1 ?_
  refine mz_aload_n (x := (mR μ 0 o)) S.1 S.2.1 dJ5_charAt_5068e_14 rfl (lv_at hl 0 rfl) ?_
  obtain ⟨a2, e3, h⟩ := h
  refine mz_o0 e3 ?_
  obtain ⟨k4, h⟩ := h
  refine mz_alen (j := 0) S hG hM dJ5_charAt_5068e_15 k4 ?_
  refine lv_iload_n S.1 S.2.1 dJ5_charAt_5068e_16 rfl (lv_at hl 1 rfl) ?_
  refine lv_ishr S.1 S.2.1 dJ5_charAt_5068e_17 ?_
  refine va_mmin S.1 S.2.1 (S.2.2.1.trans hl.1.symm) S.2.2.2.1 (S.2.2.2.2 _ tw_1352) (S.2.2.2.2 _ tw_515) (S.2.2.2.2 _ tw_32) (S.2.2.2.2 _ tw_516) (Nat.le_of_ble_eq_true rfl) (Nat.le_of_ble_eq_true rfl) (Nat.le_of_ble_eq_true rfl) (Nat.le_of_ble_eq_true rfl) dJ5_charAt_5068e_18 ?_
  refine lv_istore (i := 4) (lv' := [(4, .int (if ((nI (mN μ a2)) >>> ((mI μ 1 o) &&& 31)) < (mI μ 3 o) then ((nI (mN μ a2)) >>> ((mI μ 1 o) &&& 31)) else (mI μ 3 o))), (3, va_rf (mR μ 0 o)), (2, .int (mI μ 1 o)), (0, .ref o), (1, .int x1)]) S.1 S.2.1 dJ5_charAt_5068e_21 hl (by decide) (by simp [List.filter, mz_cat]) (fun ls hl => ?_)
  refine lv_iload_n S.1 S.2.1 dJ5_charAt_5068e_23 rfl (lv_at hl 4 rfl) ?_
  refine lv_iload S.1 S.2.1 dJ5_charAt_5068e_24 (lv_at hl 0 rfl) ?_
  refine mz_S S hG hM hS (As := [.int x1, .int (if ((nI (mN μ a2)) >>> ((mI μ 1 o) &&& 31)) < (mI μ 3 o) then ((nI (mN μ a2)) >>> ((mI μ 1 o) &&& 31)) else (mI μ 3 o))]) (rest := []) (c_J0_checkIndex_df160 h) yf_J0_checkIndex_df160 tw_1353 tw_823 ⟨Nat.le_of_ble_eq_true rfl, Nat.le_of_ble_eq_true rfl⟩ ⟨(Nat.le_of_ble_eq_true rfl), (Nat.le_of_ble_eq_true rfl)⟩ rfl hl.1 rfl (Nat.le_of_ble_eq_true rfl) dJ5_charAt_5068e_26 (fun v9 μ9 H locs hp hM hS => ?_)
  obtain ⟨rfl, e9, h⟩ := hp
  rw [e9] at hM
  refine W.cs (cells' := 0) (slots' := 0) rfl rfl ?_
  refine lv_iload_n S.1 S.2.1 dJ5_charAt_5068e_29 rfl (lv_at hl 2 rfl) ?_
  obtain ⟨c5, h⟩ := h
  refine lv_if_ne (tgt := 42) S.1 S.2.1 dJ5_charAt_5068e_30 (by decide) (fun c => absurd c5 c) (fun _ => ?_)
  refine mz_aload_n (x := (mR μ 0 o)) S.1 S.2.1 dJ5_charAt_5068e_33 rfl (lv_at hl 1 rfl) ?_
  refine lv_iload_n S.1 S.2.1 dJ5_charAt_5068e_34 rfl (lv_at hl 4 rfl) ?_
  refine mz_o1 e3 ?_
  obtain ⟨b6, h⟩ := h
  refine mz_bald S hG hM dJ5_charAt_5068e_35 k4 b6 ?_
  refine lv_sipush (v := (nI 255)) S.1 S.2.1 dJ5_charAt_5068e_36 (by decide) ?_
  refine lv_iand S.1 S.2.1 dJ5_charAt_5068e_39 ?_
  refine lv_i2c S.1 S.2.1 dJ5_charAt_5068e_40 rfl ?_
  obtain ⟨f7, h⟩ := h
  exact mz_iret S hr hlk hM hS (mz_nC f7) (Nat.le_of_ble_eq_true rfl) (Nat.le_of_ble_eq_true rfl) dJ5_charAt_5068e_41 ⟨_, rfl, rfl, h⟩
set_option maxRecDepth 100000 in
set_option maxHeartbeats 4000000 in
theorem c_J4_charAt_5068e {l : Launch} {G : mgT} {μ : mmT} {o : Nat} {x1 : Int32} {Q : Int32 → Prop} (h : w_J4_charAt_5068e G μ o x1 Q) : MC G l yJ4_charAt_5068e cJ4_charAt_5068e 2 (some .char) { frames := 3, cells := 0, slots := 0, locals := 67 } [.ref o, .int x1] μ (pI (fun r μ' => μ' = μ ∧ Q r)) := by
  refine mz_MC (by decide +kernel) (Nat.le_of_ble_eq_true rfl) (fun p e s m args below meth c S hG hr hlk hnm => ?_)
  intro H locs ls hM hS hl
  have hl : lv_has ls 2 [(0, .ref o), (1, .int x1)] := hl
  unfold w_J4_charAt_5068e at h
  refine lv_aload_n S.1 S.2.1 dJ4_charAt_5068e_0 rfl (lv_at hl 0 rfl) ?_
  refine lv_iload_n S.1 S.2.1 dJ4_charAt_5068e_1 rfl (lv_at hl 1 rfl) ?_
  obtain ⟨k1, h⟩ := h
  refine mz_SU S hG hM hS cf_0 k1 (As := [.int x1]) (rest := []) (c_J5_charAt_5068e h) yf_J5_charAt_5068e tw_1349 tw_1984 tw_345 tw_1350 (by decide) ⟨Nat.le_of_ble_eq_true rfl, Nat.le_of_ble_eq_true rfl⟩ ⟨(Nat.le_of_ble_eq_true rfl), (Nat.le_of_ble_eq_true rfl)⟩ rfl hl.1 rfl (Nat.le_of_ble_eq_true rfl) dJ4_charAt_5068e_2 (fun v9 μ9 H locs hp hM hS => ?_)
  obtain ⟨u2, rfl, e9, h⟩ := hp
  rw [e9] at hM
  refine W.cs (cells' := 0) (slots' := 0) rfl rfl ?_
  obtain ⟨f3, h⟩ := h
  exact mz_iret S hr hlk hM hS (mz_nC f3) (Nat.le_of_ble_eq_true rfl) (Nat.le_of_ble_eq_true rfl) dJ4_charAt_5068e_5 ⟨_, rfl, rfl, h⟩
set_option maxRecDepth 100000 in
set_option maxHeartbeats 4000000 in
theorem c_X10_outputAt {l : Launch} {G : mgT} {μ : mmT} {o : Nat} {x1 : Int32} {Q : Int32 → Prop} {X : String → Prop} (hl0 : l.stackTraces = false) (h : w_X10_outputAt G μ o x1 Q X) : MX G l yX10_outputAt cX10_outputAt 2 (some .char) { frames := 6, cells := 1, slots := 6, locals := 100 } [.ref o, .int x1] μ (pI (fun r μ' => μ' = μ ∧ Q r)) (fun E μ' => μ' = μ ∧ X E) := by
  refine mz_MX (by decide +kernel) (Nat.le_of_ble_eq_true rfl) (fun p e s m args below meth c S hG hr hlk hnm hex => ?_)
  have hB15 : ∀  (H : Heap) (locs : List Loc) (ls : Array Slot), Mm G μ H → va_S (Ah G) s.heap H locs → lv_has ls 2 [(0, .ref o)] → w_X10_outputAt_b15 G μ o Q X   → W p l e { frames := 6, cells := 1, slots := 6, locals := 100 } s m args below meth c H locs 0 0 (vx_MQ below (mQ G (pI (fun r μ' => μ' = μ ∧ Q r))) (mX G (fun E μ' => μ' = μ ∧ X E)) args s 1 6 (Ah G)) (F0 m 15 ls []) := by
    intro   H locs ls hM hS hl h
    unfold w_X10_outputAt_b15 at h
    exact mz_throwW S hl0 hG hM hS hex hlk hl.1 xf_103_107 (j := 21) rfl dX10_outputAt_15 dX10_outputAt_18 dX10_outputAt_19 dX10_outputAt_22 dX10_outputAt_25 (Nat.le_of_ble_eq_true rfl) (Nat.le_of_ble_eq_true rfl) (Nat.le_of_ble_eq_true rfl) (Nat.le_of_ble_eq_true rfl) (Nat.le_of_ble_eq_true rfl) (Nat.le_of_ble_eq_true rfl) ⟨rfl, h⟩
  intro H locs ls hM hS hl
  have hl : lv_has ls 2 [(0, .ref o), (1, .int x1)] := hl
  unfold w_X10_outputAt at h
  refine lv_iload_n S.1 S.2.1 dX10_outputAt_0 rfl (lv_at hl 1 rfl) ?_
  refine lv_if_lt (tgt := 15) S.1 S.2.1 dX10_outputAt_1 (by decide) (fun c1 => ?_) (fun c1 => ?_)
  · have h := h.1 c1
    exact hB15   H locs ls hM hS (lv_sub hl [0] rfl) h
  · have h := h.2 c1
    refine lv_iload_n S.1 S.2.1 dX10_outputAt_4 rfl (lv_at hl 1 rfl) ?_
    refine lv_aload_n S.1 S.2.1 dX10_outputAt_5 rfl (lv_at hl 0 rfl) ?_
    obtain ⟨k2, h⟩ := h
    refine mz_getr S hG hM cf_9 fd_294 tw_353 dX10_outputAt_6 k2 ?_
    obtain ⟨a3, e4, h⟩ := h
    refine mz_o0 e4 ?_
    obtain ⟨k5, h⟩ := h
    refine mz_V S hG hM hS cf_0 k5 (As := []) (rest := [.int x1]) (c_J4_length_8abf5 h) yf_J4_length_8abf5 tw_828 tw_641 tw_1983 ⟨Nat.le_of_ble_eq_true rfl, Nat.le_of_ble_eq_true rfl⟩ ⟨(Nat.le_of_ble_eq_true rfl), (Nat.le_of_ble_eq_true rfl)⟩ rfl hl.1 rfl (Nat.le_of_ble_eq_true rfl) dX10_outputAt_9 (fun v9 μ9 H locs hp hM hS => ?_)
    obtain ⟨u6, rfl, e9, h⟩ := hp
    rw [e9] at hM
    refine W.cs (cells' := 0) (slots' := 0) rfl rfl ?_
    refine lv_icmp_lt (tgt := 26) S.1 S.2.1 dX10_outputAt_12 (by decide) (fun c7 => ?_) (fun c7 => ?_)
    · have h := h.1 c7
      refine lv_aload_n S.1 S.2.1 dX10_outputAt_26 rfl (lv_at hl 0 rfl) ?_
      refine mz_getr S hG hM cf_9 fd_294 tw_353 dX10_outputAt_27 k2 ?_
      refine lv_iload_n S.1 S.2.1 dX10_outputAt_30 rfl (lv_at hl 1 rfl) ?_
      refine mz_o1 e4 ?_
      refine mz_V S hG hM hS cf_0 k5 (As := [.int x1]) (rest := []) (c_J4_charAt_5068e h) yf_J4_charAt_5068e tw_1345 tw_1346 tw_1347 ⟨Nat.le_of_ble_eq_true rfl, Nat.le_of_ble_eq_true rfl⟩ ⟨(Nat.le_of_ble_eq_true rfl), (Nat.le_of_ble_eq_true rfl)⟩ rfl hl.1 rfl (Nat.le_of_ble_eq_true rfl) dX10_outputAt_31 (fun v9 μ9 H locs hp hM hS => ?_)
      obtain ⟨u8, rfl, e9, h⟩ := hp
      rw [e9] at hM
      refine W.cs (cells' := 0) (slots' := 0) rfl rfl ?_
      obtain ⟨f9, h⟩ := h
      exact vx_ret (mz_iret S hr hlk hM hS (mz_nC f9) (Nat.le_of_ble_eq_true rfl) (Nat.le_of_ble_eq_true rfl) dX10_outputAt_34 ⟨_, rfl, rfl, h⟩)
    · have h := h.2 c7
      exact hB15   H locs ls hM hS (lv_sub hl [0] rfl) h
set_option maxRecDepth 100000 in
set_option maxHeartbeats 4000000 in
theorem c_X10_type {l : Launch} {G : mgT} {μ : mmT} {o : Nat} {x1 : Int32} {Q : Int32 → mmT → Prop} {X : String → mmT → Prop} (hl0 : l.stackTraces = false) (h : w_X10_type G μ o x1 Q X) : MX G l yX10_type cX10_type 2 (some .int) { frames := 6, cells := 1, slots := 6, locals := 100 } [.ref o, .int x1] μ (pI Q) X := by
  refine mz_MX (by decide +kernel) (Nat.le_of_ble_eq_true rfl) (fun p e s m args below meth c S hG hr hlk hnm hex => ?_)
  have hB12 : ∀ (μ : mmT) (H : Heap) (locs : List Loc) (ls : Array Slot), Mm G μ H → va_S (Ah G) s.heap H locs → lv_has ls 2 [(0, .ref o)] → w_X10_type_b12 G o Q X  μ → W p l e { frames := 6, cells := 1, slots := 6, locals := 100 } s m args below meth c H locs 0 0 (vx_MQ below (mQ G (pI Q)) (mX G X) args s 1 6 (Ah G)) (F0 m 12 ls []) := by
    intro  μ H locs ls hM hS hl h
    unfold w_X10_type_b12 at h
    exact mz_throwW S hl0 hG hM hS hex hlk hl.1 xf_91_95 (j := 22) rfl dX10_type_12 dX10_type_15 dX10_type_16 dX10_type_19 dX10_type_22 (Nat.le_of_ble_eq_true rfl) (Nat.le_of_ble_eq_true rfl) (Nat.le_of_ble_eq_true rfl) (Nat.le_of_ble_eq_true rfl) (Nat.le_of_ble_eq_true rfl) (Nat.le_of_ble_eq_true rfl) h
  intro H locs ls hM hS hl
  have hl : lv_has ls 2 [(0, .ref o), (1, .int x1)] := hl
  unfold w_X10_type at h
  refine lv_iload_n S.1 S.2.1 dX10_type_0 rfl (lv_at hl 1 rfl) ?_
  refine lv_bipush (v := (nI 32)) S.1 S.2.1 dX10_type_1 (by decide) ?_
  refine lv_icmp_lt (tgt := 12) S.1 S.2.1 dX10_type_3 (by decide) (fun c1 => ?_) (fun c1 => ?_)
  · have h := h.1 c1
    exact hB12  μ H locs ls hM hS (lv_sub hl [0] rfl) h
  · have h := h.2 c1
    refine lv_iload_n S.1 S.2.1 dX10_type_6 rfl (lv_at hl 1 rfl) ?_
    refine lv_bipush (v := (nI 126)) S.1 S.2.1 dX10_type_7 (by decide) ?_
    refine lv_icmp_le (tgt := 23) S.1 S.2.1 dX10_type_9 (by decide) (fun c2 => ?_) (fun c2 => ?_)
    · have h := h.1 c2
      refine lv_aload_n S.1 S.2.1 dX10_type_23 rfl (lv_at hl 0 rfl) ?_
      obtain ⟨k3, h⟩ := h
      refine mz_getr S hG hM cf_9 fd_293 tw_352 dX10_type_24 k3 ?_
      obtain ⟨a4, e5, h⟩ := h
      refine mz_o0 e5 ?_
      obtain ⟨k6, h⟩ := h
      refine mz_geti S hG hM cf_6 fd_194 tw_286 dX10_type_27 k6 ?_
      refine lv_bipush (v := (nI 60)) S.1 S.2.1 dX10_type_30 (by decide) ?_
      refine lv_icmp_lt (tgt := 46) S.1 S.2.1 dX10_type_32 (by decide) (fun c7 => ?_) (fun c7 => ?_)
      · have h := h.1 c7
        refine lv_aload_n S.1 S.2.1 dX10_type_46 rfl (lv_at hl 0 rfl) ?_
        refine mz_getr S hG hM cf_9 fd_293 tw_352 dX10_type_47 k3 ?_
        refine lv_iload_n S.1 S.2.1 dX10_type_50 rfl (lv_at hl 1 rfl) ?_
        refine mz_o1 e5 ?_
        refine mz_V S hG hM hS cf_6 k6 (As := [.int x1]) (rest := []) (c_X7_append h) yf_X7_append tw_1364 tw_1365 tw_1366 ⟨Nat.le_of_ble_eq_true rfl, Nat.le_of_ble_eq_true rfl⟩ ⟨(Nat.le_of_ble_eq_true rfl), (Nat.le_of_ble_eq_true rfl)⟩ rfl hl.1 rfl (Nat.le_of_ble_eq_true rfl) dX10_type_51 (fun v9 μ9 H locs hp hM hS => ?_)
        obtain ⟨u8, rfl, h⟩ := hp
        refine W.cs (cells' := 0) (slots' := 0) rfl rfl ?_
        exact vx_ret (mz_iret S hr hlk hM hS rfl (Nat.le_of_ble_eq_true rfl) (Nat.le_of_ble_eq_true rfl) dX10_type_54 ⟨_, rfl, h⟩)
      · have h := h.2 c7
        exact mz_throwW S hl0 hG hM hS hex hlk hl.1 xf_98_102 (j := 23) rfl dX10_type_35 dX10_type_38 dX10_type_39 dX10_type_42 dX10_type_45 (Nat.le_of_ble_eq_true rfl) (Nat.le_of_ble_eq_true rfl) (Nat.le_of_ble_eq_true rfl) (Nat.le_of_ble_eq_true rfl) (Nat.le_of_ble_eq_true rfl) (Nat.le_of_ble_eq_true rfl) h
    · have h := h.2 c2
      exact hB12  μ H locs ls hM hS (lv_sub hl [0] rfl) h
set_option maxRecDepth 100000 in
set_option maxHeartbeats 4000000 in
theorem c_X10_runScript {l : Launch} {G : mgT} {μ : mmT} {o : Nat} {Q : Int32 → mmT → Prop} {X : String → mmT → Prop} (hl0 : l.stackTraces = false) (h : w_X10_runScript G μ o Q X) : MX G l yX10_runScript cX10_runScript 3 (some .int) { frames := 7, cells := 1, slots := 6, locals := 193 } [.ref o] μ (pI Q) X := by
  refine mz_MX (by decide +kernel) (Nat.le_of_ble_eq_true rfl) (fun p e s m args below meth c S hG hr hlk hnm hex => ?_)
  have hB55 : ∀ (n : Nat) (x2 : Int32) (μ : mmT) (H : Heap) (locs : List Loc) (ls : Array Slot), Mm G μ H → va_S (Ah G) s.heap H locs → lv_has ls 3 [(0, .ref o), (2, .int x2)] → w_X10_runScript_l55 G o Q X  n x2 μ → W p l e { frames := 7, cells := 1, slots := 6, locals := 193 } s m args below meth c H locs 0 0 (vx_MQ below (mQ G (pI Q)) (mX G X) args s 1 6 (Ah G)) (F0 m 55 ls []) := by
    intro  n
    induction n with
    | zero =>
      intro x2 μ H locs ls hM hS hl h
      exact False.elim h
    | succ n ih =>
      intro x2 μ H locs ls hM hS hl h
      have h : w_X10_runScript_b55 G o Q X  (w_X10_runScript_l55 G o Q X  n) x2 μ := h
      unfold w_X10_runScript_b55 at h
      refine lv_iload_n S.1 S.2.1 dX10_runScript_55 rfl (lv_at hl 1 rfl) ?_
      refine lv_aload_n S.1 S.2.1 dX10_runScript_56 rfl (lv_at hl 0 rfl) ?_
      obtain ⟨k16, h⟩ := h
      refine mz_getr S hG hM cf_9 fd_293 tw_352 dX10_runScript_57 k16 ?_
      obtain ⟨a17, e18, h⟩ := h
      refine mz_o0 e18 ?_
      obtain ⟨k19, h⟩ := h
      refine mz_geti S hG hM cf_6 fd_195 tw_288 dX10_runScript_60 k19 ?_
      refine lv_icmp_ge (tgt := 118) S.1 S.2.1 dX10_runScript_63 (by decide) (fun c20 => ?_) (fun c20 => ?_)
      · have h := h.1 c20
        refine lv_aload_n S.1 S.2.1 dX10_runScript_118 rfl (lv_at hl 0 rfl) ?_
        refine mz_getr S hG hM cf_9 fd_292 tw_351 dX10_runScript_119 k16 ?_
        refine lv_aload_n S.1 S.2.1 dX10_runScript_122 rfl (lv_at hl 0 rfl) ?_
        refine mz_getr S hG hM cf_9 fd_289 tw_348 dX10_runScript_123 k16 ?_
        obtain ⟨a21, e22, h⟩ := h
        refine mz_o1 e22 ?_
        obtain ⟨k23, h⟩ := h
        refine mz_V S hG hM hS cf_3 k23 (As := [va_rf (mR μ 289 o)]) (rest := []) (c_X4_remember h) yf_X4_remember tw_923 tw_924 tw_925 ⟨Nat.le_of_ble_eq_true rfl, Nat.le_of_ble_eq_true rfl⟩ ⟨(Nat.le_of_ble_eq_true rfl), (Nat.le_of_ble_eq_true rfl)⟩ rfl hl.1 rfl (Nat.le_of_ble_eq_true rfl) dX10_runScript_126 (fun v9 μ24 H locs hp hM hS => ?_)
        obtain ⟨rfl, h⟩ := hp
        refine W.cs (cells' := 0) (slots' := 0) rfl rfl ?_
        refine lv_aload_n S.1 S.2.1 dX10_runScript_129 rfl (lv_at hl 0 rfl) ?_
        obtain ⟨k25, h⟩ := h
        refine mz_getr S hG hM cf_9 fd_293 tw_352 dX10_runScript_130 k25 ?_
        obtain ⟨a26, e27, h⟩ := h
        refine mz_o0 e27 ?_
        obtain ⟨k28, h⟩ := h
        refine mz_geti S hG hM cf_6 fd_195 tw_288 dX10_runScript_133 k28 ?_
        exact vx_ret (mz_iret S hr hlk hM hS rfl (Nat.le_of_ble_eq_true rfl) (Nat.le_of_ble_eq_true rfl) dX10_runScript_136 ⟨_, rfl, h⟩)
      · have h := h.2 c20
        refine lv_aload_n S.1 S.2.1 dX10_runScript_66 rfl (lv_at hl 0 rfl) ?_
        refine mz_getr S hG hM cf_9 fd_288 tw_347 dX10_runScript_67 k16 ?_
        refine lv_aload_n S.1 S.2.1 dX10_runScript_70 rfl (lv_at hl 0 rfl) ?_
        refine mz_getr S hG hM cf_9 fd_293 tw_352 dX10_runScript_71 k16 ?_
        refine mz_o0 e18 ?_
        refine mz_getr S hG hM cf_6 fd_193 tw_284 dX10_runScript_74 k19 ?_
        refine lv_iload_n S.1 S.2.1 dX10_runScript_77 rfl (lv_at hl 1 rfl) ?_
        obtain ⟨a29, e30, h⟩ := h
        refine mz_o1 e30 ?_
        obtain ⟨k31, h⟩ := h
        obtain ⟨b32, h⟩ := h
        refine mz_aald (j := 5) S hG hM dX10_runScript_78 (by decide) rfl k31 b32 ?_
        obtain ⟨a33, e34, h⟩ := h
        refine mz_o1 e34 ?_
        obtain ⟨k35, h⟩ := h
        refine mz_V S hG hM hS cf_7 k35 (As := [va_rf (mB μ a29 x2.toNatClampNeg)]) (rest := []) (c_X8_perform h) yf_X8_perform tw_1419 tw_1420 tw_1421 ⟨Nat.le_of_ble_eq_true rfl, Nat.le_of_ble_eq_true rfl⟩ ⟨(Nat.le_of_ble_eq_true rfl), (Nat.le_of_ble_eq_true rfl)⟩ rfl hl.1 rfl (Nat.le_of_ble_eq_true rfl) dX10_runScript_79 (fun v9 μ37 H locs hp hM hS => ?_)
        obtain ⟨u36, rfl, h⟩ := hp
        refine W.cs (cells' := 0) (slots' := 0) rfl rfl ?_
        refine lv_if_ge (tgt := 112) S.1 S.2.1 dX10_runScript_82 (by decide) (fun c38 => ?_) (fun c38 => ?_)
        · have h := h.1 c38
          refine lv_iinc (v := (x2 + nI 1)) (lv' := [(2, .int (x2 + nI 1)), (0, .ref o)]) S.1 S.2.1 dX10_runScript_112 hl (k := 1) rfl rfl (by decide) rfl (fun ls hl => ?_)
          refine lv_goto (tgt := 55) S.1 S.2.1 dX10_runScript_115 (by decide) ?_
          exact ih (x2 + nI 1) μ37 H locs ls hM hS (lv_sub hl [1, 0] rfl) h
        · have h := h.2 c38
          refine lv_aload_n S.1 S.2.1 dX10_runScript_85 rfl (lv_at hl 0 rfl) ?_
          obtain ⟨k39, h⟩ := h
          refine mz_getr S hG hM cf_9 fd_288 tw_347 dX10_runScript_86 k39 ?_
          refine lv_aload_n S.1 S.2.1 dX10_runScript_89 rfl (lv_at hl 0 rfl) ?_
          refine mz_getr S hG hM cf_9 fd_289 tw_348 dX10_runScript_90 k39 ?_
          obtain ⟨a40, e41, h⟩ := h
          refine mz_o1 e41 ?_
          obtain ⟨k42, h⟩ := h
          refine mz_V S hG hM hS cf_7 k42 (As := [va_rf (mR μ37 289 o)]) (rest := []) (c_X8_copyFrom h) yf_X8_copyFrom tw_833 tw_834 tw_835 ⟨Nat.le_of_ble_eq_true rfl, Nat.le_of_ble_eq_true rfl⟩ ⟨(Nat.le_of_ble_eq_true rfl), (Nat.le_of_ble_eq_true rfl)⟩ rfl hl.1 rfl (Nat.le_of_ble_eq_true rfl) dX10_runScript_93 (fun v9 μ43 H locs hp hM hS => ?_)
          obtain ⟨rfl, h⟩ := hp
          refine W.cs (cells' := 0) (slots' := 0) rfl rfl ?_
          refine lv_aload_n S.1 S.2.1 dX10_runScript_96 rfl (lv_at hl 0 rfl) ?_
          refine lv_iload_n S.1 S.2.1 dX10_runScript_97 rfl (lv_at hl 1 rfl) ?_
          obtain ⟨k44, h⟩ := h
          refine mz_puti S hG hM hS cf_9 fd_297 tw_356 dX10_runScript_98 k44 rfl rfl (fun H locs hM hS hz9 => ?_)
          exact mz_throwW S hl0 hG hM hS hex hlk hl.1 xf_98_102 (j := 25) rfl dX10_runScript_101 dX10_runScript_104 dX10_runScript_105 dX10_runScript_108 dX10_runScript_111 (Nat.le_of_ble_eq_true rfl) (Nat.le_of_ble_eq_true rfl) (Nat.le_of_ble_eq_true rfl) (Nat.le_of_ble_eq_true rfl) (Nat.le_of_ble_eq_true rfl) (Nat.le_of_ble_eq_true rfl) h
  intro H locs ls hM hS hl
  have hl : lv_has ls 3 [(0, .ref o)] := hl
  unfold w_X10_runScript at h
  refine lv_aload_n S.1 S.2.1 dX10_runScript_0 rfl (lv_at hl 0 rfl) ?_
  obtain ⟨k1, h⟩ := h
  refine mz_getr S hG hM cf_9 fd_293 tw_352 dX10_runScript_1 k1 ?_
  obtain ⟨a2, e3, h⟩ := h
  refine mz_o0 e3 ?_
  obtain ⟨k4, h⟩ := h
  refine mz_V S hG hM hS cf_6 k4 (As := []) (rest := []) (c_X7_split h) yf_X7_split tw_1375 tw_1376 tw_1377 ⟨Nat.le_of_ble_eq_true rfl, Nat.le_of_ble_eq_true rfl⟩ ⟨(Nat.le_of_ble_eq_true rfl), (Nat.le_of_ble_eq_true rfl)⟩ rfl hl.1 rfl (Nat.le_of_ble_eq_true rfl) dX10_runScript_4 (fun v9 μ6 H locs hp hM hS => ?_)
  obtain ⟨u5, rfl, h⟩ := hp
  refine W.cs (cells' := 0) (slots' := 0) rfl rfl ?_
  refine lv_istore_n (lv' := [(1, .int u5), (0, .ref o)]) S.1 S.2.1 dX10_runScript_7 rfl hl (by decide) rfl (fun ls hl => ?_)
  refine lv_aload_n S.1 S.2.1 dX10_runScript_8 rfl (lv_at hl 1 rfl) ?_
  obtain ⟨k7, h⟩ := h
  refine mz_getr S hG hM cf_9 fd_293 tw_352 dX10_runScript_9 k7 ?_
  refine lv_iconst (v := (nI 0)) S.1 S.2.1 dX10_runScript_12 (by decide) ?_
  obtain ⟨a8, e9, h⟩ := h
  refine mz_o1 e9 ?_
  obtain ⟨k10, h⟩ := h
  refine mz_puti S hG hM hS cf_6 fd_194 tw_286 dX10_runScript_13 k10 rfl rfl (fun H locs hM hS hz9 => ?_)
  refine lv_iload_n S.1 S.2.1 dX10_runScript_16 rfl (lv_at hl 0 rfl) ?_
  refine lv_if_ne (tgt := 42) S.1 S.2.1 dX10_runScript_17 (by decide) (fun c11 => ?_) (fun c11 => ?_)
  · have h := h.1 c11
    refine lv_aload_n S.1 S.2.1 dX10_runScript_42 rfl (lv_at hl 1 rfl) ?_
    refine mz_getr S hG hM cf_9 fd_289 tw_348 dX10_runScript_43 k7 ?_
    refine lv_aload_n S.1 S.2.1 dX10_runScript_46 rfl (lv_at hl 1 rfl) ?_
    refine mz_getr S hG hM cf_9 fd_288 tw_347 dX10_runScript_47 k7 ?_
    obtain ⟨a12, e13, h⟩ := h
    refine mz_o1 e13 ?_
    obtain ⟨k14, h⟩ := h
    refine mz_V S hG hM hS cf_7 k14 (As := [va_rf (mR (sI μ6 194 a8 (nI 0)) 288 o)]) (rest := []) (c_X8_copyFrom h) yf_X8_copyFrom tw_833 tw_834 tw_835 ⟨Nat.le_of_ble_eq_true rfl, Nat.le_of_ble_eq_true rfl⟩ ⟨(Nat.le_of_ble_eq_true rfl), (Nat.le_of_ble_eq_true rfl)⟩ rfl hl.1 rfl (Nat.le_of_ble_eq_true rfl) dX10_runScript_50 (fun v9 μ15 H locs hp hM hS => ?_)
    obtain ⟨rfl, h⟩ := hp
    refine W.cs (cells' := 0) (slots' := 0) rfl rfl ?_
    refine lv_iconst (v := (nI 0)) S.1 S.2.1 dX10_runScript_53 (by decide) ?_
    refine lv_istore_n (lv' := [(2, .int (nI 0)), (1, .int u5), (0, .ref o)]) S.1 S.2.1 dX10_runScript_54 rfl hl (by decide) rfl (fun ls hl => ?_)
    obtain ⟨n9, h⟩ := h
    exact hB55  n9 (nI 0) μ15 H locs ls hM hS (lv_sub hl [2, 0] rfl) h
  · have h := h.2 c11
    refine lv_aload_n S.1 S.2.1 dX10_runScript_20 rfl (lv_at hl 1 rfl) ?_
    refine lv_aload_n S.1 S.2.1 dX10_runScript_21 rfl (lv_at hl 1 rfl) ?_
    refine mz_getr S hG hM cf_9 fd_293 tw_352 dX10_runScript_22 k7 ?_
    obtain ⟨a45, e46, h⟩ := h
    refine mz_o0 e46 ?_
    obtain ⟨k47, h⟩ := h
    refine mz_geti S hG hM cf_6 fd_196 tw_290 dX10_runScript_25 k47 ?_
    refine mz_puti S hG hM hS cf_9 fd_296 tw_355 dX10_runScript_28 k7 rfl rfl (fun H locs hM hS hz9 => ?_)
    exact mz_throwW S hl0 hG hM hS hex hlk hl.1 xf_91_95 (j := 24) rfl dX10_runScript_31 dX10_runScript_34 dX10_runScript_35 dX10_runScript_38 dX10_runScript_41 (Nat.le_of_ble_eq_true rfl) (Nat.le_of_ble_eq_true rfl) (Nat.le_of_ble_eq_true rfl) (Nat.le_of_ble_eq_true rfl) (Nat.le_of_ble_eq_true rfl) (Nat.le_of_ble_eq_true rfl) h
set_option maxRecDepth 100000 in
set_option maxHeartbeats 4000000 in
theorem c_X10_errorPosition {l : Launch} {G : mgT} {μ : mmT} {o : Nat} {Q : Int32 → Prop} {X : String → Prop} (hl0 : l.stackTraces = false) (h : w_X10_errorPosition G μ o Q X) : MX G l yX10_errorPosition cX10_errorPosition 1 (some .int) { frames := 6, cells := 1, slots := 6, locals := 100 } [.ref o] μ (pI (fun r μ' => μ' = μ ∧ Q r)) (fun E μ' => μ' = μ ∧ X E) := by
  refine mz_MX (by decide +kernel) (Nat.le_of_ble_eq_true rfl) (fun p e s m args below meth c S hG hr hlk hnm hex => ?_)
  intro H locs ls hM hS hl
  have hl : lv_has ls 1 [(0, .ref o)] := hl
  unfold w_X10_errorPosition at h
  refine lv_aload_n S.1 S.2.1 dX10_errorPosition_0 rfl (lv_at hl 0 rfl) ?_
  obtain ⟨k1, h⟩ := h
  refine mz_geti S hG hM cf_9 fd_296 tw_355 dX10_errorPosition_1 k1 ?_
  refine lv_iconst (v := (-1)) S.1 S.2.1 dX10_errorPosition_4 (by decide) ?_
  refine lv_icmp_ne (tgt := 19) S.1 S.2.1 dX10_errorPosition_5 (by decide) (fun c2 => ?_) (fun c2 => ?_)
  · have h := h.1 c2
    refine lv_aload_n S.1 S.2.1 dX10_errorPosition_19 rfl (lv_at hl 0 rfl) ?_
    refine mz_geti S hG hM cf_9 fd_296 tw_355 dX10_errorPosition_20 k1 ?_
    exact vx_ret (mz_iret S hr hlk hM hS rfl (Nat.le_of_ble_eq_true rfl) (Nat.le_of_ble_eq_true rfl) dX10_errorPosition_23 ⟨_, rfl, rfl, h⟩)
  · have h := h.2 c2
    exact mz_throwNW S hl0 hG hM hS hex hlk hl.1 xf_108_112 (j := 26) rfl dX10_errorPosition_8 dX10_errorPosition_11 dX10_errorPosition_12 dX10_errorPosition_15 dX10_errorPosition_18 (Nat.le_of_ble_eq_true rfl) (Nat.le_of_ble_eq_true rfl) (Nat.le_of_ble_eq_true rfl) (Nat.le_of_ble_eq_true rfl) (Nat.le_of_ble_eq_true rfl) (Nat.le_of_ble_eq_true rfl) ⟨rfl, h⟩
set_option maxRecDepth 100000 in
set_option maxHeartbeats 4000000 in
theorem c_X10_failedCommand {l : Launch} {G : mgT} {μ : mmT} {o : Nat} {Q : Int32 → Prop} {X : String → Prop} (hl0 : l.stackTraces = false) (h : w_X10_failedCommand G μ o Q X) : MX G l yX10_failedCommand cX10_failedCommand 1 (some .int) { frames := 6, cells := 1, slots := 6, locals := 100 } [.ref o] μ (pI (fun r μ' => μ' = μ ∧ Q r)) (fun E μ' => μ' = μ ∧ X E) := by
  refine mz_MX (by decide +kernel) (Nat.le_of_ble_eq_true rfl) (fun p e s m args below meth c S hG hr hlk hnm hex => ?_)
  intro H locs ls hM hS hl
  have hl : lv_has ls 1 [(0, .ref o)] := hl
  unfold w_X10_failedCommand at h
  refine lv_aload_n S.1 S.2.1 dX10_failedCommand_0 rfl (lv_at hl 0 rfl) ?_
  obtain ⟨k1, h⟩ := h
  refine mz_geti S hG hM cf_9 fd_297 tw_356 dX10_failedCommand_1 k1 ?_
  refine lv_iconst (v := (-1)) S.1 S.2.1 dX10_failedCommand_4 (by decide) ?_
  refine lv_icmp_ne (tgt := 19) S.1 S.2.1 dX10_failedCommand_5 (by decide) (fun c2 => ?_) (fun c2 => ?_)
  · have h := h.1 c2
    refine lv_aload_n S.1 S.2.1 dX10_failedCommand_19 rfl (lv_at hl 0 rfl) ?_
    refine mz_geti S hG hM cf_9 fd_297 tw_356 dX10_failedCommand_20 k1 ?_
    exact vx_ret (mz_iret S hr hlk hM hS rfl (Nat.le_of_ble_eq_true rfl) (Nat.le_of_ble_eq_true rfl) dX10_failedCommand_23 ⟨_, rfl, rfl, h⟩)
  · have h := h.2 c2
    exact mz_throwNW S hl0 hG hM hS hex hlk hl.1 xf_108_112 (j := 27) rfl dX10_failedCommand_8 dX10_failedCommand_11 dX10_failedCommand_12 dX10_failedCommand_15 dX10_failedCommand_18 (Nat.le_of_ble_eq_true rfl) (Nat.le_of_ble_eq_true rfl) (Nat.le_of_ble_eq_true rfl) (Nat.le_of_ble_eq_true rfl) (Nat.le_of_ble_eq_true rfl) (Nat.le_of_ble_eq_true rfl) ⟨rfl, h⟩
set_option maxRecDepth 100000 in
set_option maxHeartbeats 4000000 in
theorem c_X10_undo {l : Launch} {G : mgT} {μ : mmT} {o : Nat} {Q : Int32 → mmT → Prop} {X : String → mmT → Prop} (hl0 : l.stackTraces = false) (h : w_X10_undo G μ o Q X) : MX G l yX10_undo cX10_undo 1 (some .int) { frames := 6, cells := 1, slots := 6, locals := 124 } [.ref o] μ (pI Q) X := by
  refine mz_MX (by decide +kernel) (Nat.le_of_ble_eq_true rfl) (fun p e s m args below meth c S hG hr hlk hnm hex => ?_)
  intro H locs ls hM hS hl
  have hl : lv_has ls 1 [(0, .ref o)] := hl
  unfold w_X10_undo at h
  refine lv_aload_n S.1 S.2.1 dX10_undo_0 rfl (lv_at hl 0 rfl) ?_
  obtain ⟨k1, h⟩ := h
  refine mz_getr S hG hM cf_9 fd_292 tw_351 dX10_undo_1 k1 ?_
  obtain ⟨a2, e3, h⟩ := h
  refine mz_o0 e3 ?_
  obtain ⟨k4, h⟩ := h
  refine mz_geti S hG hM cf_3 fd_98 tw_242 dX10_undo_4 k4 ?_
  refine lv_if_ne (tgt := 21) S.1 S.2.1 dX10_undo_7 (by decide) (fun c5 => ?_) (fun c5 => ?_)
  · have h := h.1 c5
    refine lv_aload_n S.1 S.2.1 dX10_undo_21 rfl (lv_at hl 0 rfl) ?_
    refine mz_getr S hG hM cf_9 fd_292 tw_351 dX10_undo_22 k1 ?_
    refine lv_aload_n S.1 S.2.1 dX10_undo_25 rfl (lv_at hl 0 rfl) ?_
    refine mz_getr S hG hM cf_9 fd_288 tw_347 dX10_undo_26 k1 ?_
    refine mz_o1 e3 ?_
    refine mz_V S hG hM hS cf_3 k4 (As := [va_rf (mR μ 288 o)]) (rest := []) (c_X4_takeBackInto h) yf_X4_takeBackInto tw_1464 tw_1465 tw_1466 ⟨Nat.le_of_ble_eq_true rfl, Nat.le_of_ble_eq_true rfl⟩ ⟨(Nat.le_of_ble_eq_true rfl), (Nat.le_of_ble_eq_true rfl)⟩ rfl hl.1 rfl (Nat.le_of_ble_eq_true rfl) dX10_undo_29 (fun v9 μ6 H locs hp hM hS => ?_)
    obtain ⟨rfl, h⟩ := hp
    refine W.cs (cells' := 0) (slots' := 0) rfl rfl ?_
    refine lv_aload_n S.1 S.2.1 dX10_undo_32 rfl (lv_at hl 0 rfl) ?_
    obtain ⟨k7, h⟩ := h
    refine mz_getr S hG hM cf_9 fd_292 tw_351 dX10_undo_33 k7 ?_
    obtain ⟨a8, e9, h⟩ := h
    refine mz_o0 e9 ?_
    obtain ⟨k10, h⟩ := h
    refine mz_geti S hG hM cf_3 fd_98 tw_242 dX10_undo_36 k10 ?_
    exact vx_ret (mz_iret S hr hlk hM hS rfl (Nat.le_of_ble_eq_true rfl) (Nat.le_of_ble_eq_true rfl) dX10_undo_39 ⟨_, rfl, h⟩)
  · have h := h.2 c5
    exact mz_throwNW S hl0 hG hM hS hex hlk hl.1 xf_108_112 (j := 28) rfl dX10_undo_10 dX10_undo_13 dX10_undo_14 dX10_undo_17 dX10_undo_20 (Nat.le_of_ble_eq_true rfl) (Nat.le_of_ble_eq_true rfl) (Nat.le_of_ble_eq_true rfl) (Nat.le_of_ble_eq_true rfl) (Nat.le_of_ble_eq_true rfl) (Nat.le_of_ble_eq_true rfl) h
set_option maxRecDepth 100000 in
set_option maxHeartbeats 4000000 in
theorem c_X10_save {l : Launch} {G : mgT} {μ : mmT} {o : Nat} {Q : Int32 → mmT → Prop} (h : w_X10_save G μ o Q) : MC G l yX10_save cX10_save 1 (some .int) { frames := 3, cells := 0, slots := 0, locals := 103 } [.ref o] μ (pI Q) := by
  refine mz_MC (by decide +kernel) (Nat.le_of_ble_eq_true rfl) (fun p e s m args below meth c S hG hr hlk hnm => ?_)
  intro H locs ls hM hS hl
  have hl : lv_has ls 1 [(0, .ref o)] := hl
  unfold w_X10_save at h
  refine lv_aload_n S.1 S.2.1 dX10_save_0 rfl (lv_at hl 0 rfl) ?_
  obtain ⟨k1, h⟩ := h
  refine mz_getr S hG hM cf_9 fd_291 tw_350 dX10_save_1 k1 ?_
  refine lv_aload_n S.1 S.2.1 dX10_save_4 rfl (lv_at hl 0 rfl) ?_
  refine mz_getr S hG hM cf_9 fd_288 tw_347 dX10_save_5 k1 ?_
  obtain ⟨a2, e3, h⟩ := h
  refine mz_o1 e3 ?_
  obtain ⟨k4, h⟩ := h
  refine mz_V S hG hM hS cf_7 k4 (As := [va_rf (mR μ 288 o)]) (rest := []) (c_X8_copyFrom h) yf_X8_copyFrom tw_833 tw_834 tw_835 ⟨Nat.le_of_ble_eq_true rfl, Nat.le_of_ble_eq_true rfl⟩ ⟨(Nat.le_of_ble_eq_true rfl), (Nat.le_of_ble_eq_true rfl)⟩ rfl hl.1 rfl (Nat.le_of_ble_eq_true rfl) dX10_save_8 (fun v9 μ5 H locs hp hM hS => ?_)
  obtain ⟨rfl, h⟩ := hp
  refine W.cs (cells' := 0) (slots' := 0) rfl rfl ?_
  refine lv_aload_n S.1 S.2.1 dX10_save_11 rfl (lv_at hl 0 rfl) ?_
  refine lv_iconst (v := (nI 1)) S.1 S.2.1 dX10_save_12 (by decide) ?_
  obtain ⟨k6, h⟩ := h
  refine mz_puti S hG hM hS cf_9 fd_295 tw_354 dX10_save_13 k6 rfl rfl (fun H locs hM hS hz9 => ?_)
  refine lv_aload_n S.1 S.2.1 dX10_save_16 rfl (lv_at hl 0 rfl) ?_
  refine mz_getr S hG hM cf_9 fd_288 tw_347 dX10_save_17 k6 ?_
  obtain ⟨a7, e8, h⟩ := h
  refine mz_o0 e8 ?_
  obtain ⟨k9, h⟩ := h
  refine mz_geti S hG hM cf_7 fd_230 tw_206 dX10_save_20 k9 ?_
  exact mz_iret S hr hlk hM hS rfl (Nat.le_of_ble_eq_true rfl) (Nat.le_of_ble_eq_true rfl) dX10_save_23 ⟨_, rfl, h⟩
set_option maxRecDepth 100000 in
set_option maxHeartbeats 4000000 in
theorem c_X10_restore {l : Launch} {G : mgT} {μ : mmT} {o : Nat} {Q : Int32 → mmT → Prop} {X : String → mmT → Prop} (hl0 : l.stackTraces = false) (h : w_X10_restore G μ o Q X) : MX G l yX10_restore cX10_restore 1 (some .int) { frames := 6, cells := 1, slots := 6, locals := 103 } [.ref o] μ (pI Q) X := by
  refine mz_MX (by decide +kernel) (Nat.le_of_ble_eq_true rfl) (fun p e s m args below meth c S hG hr hlk hnm hex => ?_)
  intro H locs ls hM hS hl
  have hl : lv_has ls 1 [(0, .ref o)] := hl
  unfold w_X10_restore at h
  refine lv_aload_n S.1 S.2.1 dX10_restore_0 rfl (lv_at hl 0 rfl) ?_
  obtain ⟨k1, h⟩ := h
  refine mz_geti S hG hM cf_9 fd_295 tw_354 dX10_restore_1 k1 ?_
  refine lv_if_ne (tgt := 18) S.1 S.2.1 dX10_restore_4 (by decide) (fun c2 => ?_) (fun c2 => ?_)
  · have h := h.1 c2
    refine lv_aload_n S.1 S.2.1 dX10_restore_18 rfl (lv_at hl 0 rfl) ?_
    refine mz_getr S hG hM cf_9 fd_288 tw_347 dX10_restore_19 k1 ?_
    refine lv_aload_n S.1 S.2.1 dX10_restore_22 rfl (lv_at hl 0 rfl) ?_
    refine mz_getr S hG hM cf_9 fd_291 tw_350 dX10_restore_23 k1 ?_
    obtain ⟨a3, e4, h⟩ := h
    refine mz_o1 e4 ?_
    obtain ⟨k5, h⟩ := h
    refine mz_V S hG hM hS cf_7 k5 (As := [va_rf (mR μ 291 o)]) (rest := []) (c_X8_copyFrom h) yf_X8_copyFrom tw_833 tw_834 tw_835 ⟨Nat.le_of_ble_eq_true rfl, Nat.le_of_ble_eq_true rfl⟩ ⟨(Nat.le_of_ble_eq_true rfl), (Nat.le_of_ble_eq_true rfl)⟩ rfl hl.1 rfl (Nat.le_of_ble_eq_true rfl) dX10_restore_26 (fun v9 μ6 H locs hp hM hS => ?_)
    obtain ⟨rfl, h⟩ := hp
    refine W.cs (cells' := 0) (slots' := 0) rfl rfl ?_
    refine lv_aload_n S.1 S.2.1 dX10_restore_29 rfl (lv_at hl 0 rfl) ?_
    obtain ⟨k7, h⟩ := h
    refine mz_getr S hG hM cf_9 fd_292 tw_351 dX10_restore_30 k7 ?_
    refine lv_iconst (v := (nI 0)) S.1 S.2.1 dX10_restore_33 (by decide) ?_
    obtain ⟨a8, e9, h⟩ := h
    refine mz_o1 e9 ?_
    obtain ⟨k10, h⟩ := h
    refine mz_puti S hG hM hS cf_3 fd_98 tw_242 dX10_restore_34 k10 rfl rfl (fun H locs hM hS hz9 => ?_)
    refine lv_aload_n S.1 S.2.1 dX10_restore_37 rfl (lv_at hl 0 rfl) ?_
    refine mz_getr S hG hM cf_9 fd_288 tw_347 dX10_restore_38 k7 ?_
    obtain ⟨a11, e12, h⟩ := h
    refine mz_o0 e12 ?_
    obtain ⟨k13, h⟩ := h
    refine mz_geti S hG hM cf_7 fd_230 tw_206 dX10_restore_41 k13 ?_
    exact vx_ret (mz_iret S hr hlk hM hS rfl (Nat.le_of_ble_eq_true rfl) (Nat.le_of_ble_eq_true rfl) dX10_restore_44 ⟨_, rfl, h⟩)
  · have h := h.2 c2
    exact mz_throwW S hl0 hG hM hS hex hlk hl.1 xf_98_102 (j := 29) rfl dX10_restore_7 dX10_restore_10 dX10_restore_11 dX10_restore_14 dX10_restore_17 (Nat.le_of_ble_eq_true rfl) (Nat.le_of_ble_eq_true rfl) (Nat.le_of_ble_eq_true rfl) (Nat.le_of_ble_eq_true rfl) (Nat.le_of_ble_eq_true rfl) (Nat.le_of_ble_eq_true rfl) h
set_option maxRecDepth 100000 in
set_option maxHeartbeats 4000000 in
theorem c_X11_init {l : Launch} {G : mgT} {μ : mmT} {z : Nat} {o : Nat} {Q : mmT → Nat → Prop} (h : w_X11_init G μ z o Q) : MZ G l yX11_init cX11_init 1 { frames := 1, cells := 8, slots := 3376, locals := 20 } [.ref o] μ z Q := by
  refine mz_MZ (by decide +kernel) (Nat.le_of_ble_eq_true rfl) (fun p e s m args below meth c S hG hr hlk hnm => ?_)
  intro H locs ls hM hS hg hz hl
  have hl : lv_has ls 1 [(0, .ref o)] := hl
  unfold w_X11_init at h
  refine lv_aload_n S.1 S.2.1 dX11_init_0 rfl (lv_at hl 0 rfl) ?_
  refine W.objInit S.1 S.2.1 S.2.2.2.1 (S.2.2.2.2 _ tw_1481) (S.2.2.2.2 _ tw_44) (S.2.2.2.2 _ tw_45) rfl (by rw [S.2.2.1]; exact hl.1) rfl dX11_init_1 (Nat.le_of_ble_eq_true rfl) (Nat.le_of_ble_eq_true rfl) ?_
  refine W.eq (g2 := F0 m 4 ls []) rfl ?_
  refine lv_aload_n S.1 S.2.1 dX11_init_4 rfl (lv_at hl 0 rfl) ?_
  refine lv_sipush (v := (nI 258)) S.1 S.2.1 dX11_init_5 (by decide) ?_
  refine mz_newa (j := 2) (atype := .int) S hG hM hS hz hg (by decide) rfl tw_136 (N := 258) (nI_pos (Nat.le_of_ble_eq_true rfl)) (nI_clamp (Nat.le_of_ble_eq_true rfl)) (Nat.le_of_ble_eq_true rfl) (Nat.le_of_ble_eq_true rfl) (Nat.le_of_ble_eq_true rfl) dX11_init_8 (fun H hM hS hz => ?_)
  have hg := Nat.le_succ_of_le hg
  refine W.cs (cells' := 1) (slots' := 258) rfl rfl ?_
  obtain ⟨k1, h⟩ := h
  refine mz_putFr (x := (some z)) S hG hM hS cf_10 fd_321 tw_1483 dX11_init_10 (by rw [hnm]; rfl) k1 rfl rfl (fun H locs hM hS hz9 => ?_)
  have hz := hz9.trans hz
  refine lv_aload_n S.1 S.2.1 dX11_init_13 rfl (lv_at hl 0 rfl) ?_
  refine lv_sipush (v := (nI 258)) S.1 S.2.1 dX11_init_14 (by decide) ?_
  refine mz_newa (j := 2) (atype := .int) S hG hM hS hz hg (by decide) rfl tw_136 (N := 258) (nI_pos (Nat.le_of_ble_eq_true rfl)) (nI_clamp (Nat.le_of_ble_eq_true rfl)) (Nat.le_of_ble_eq_true rfl) (Nat.le_of_ble_eq_true rfl) (Nat.le_of_ble_eq_true rfl) dX11_init_17 (fun H hM hS hz => ?_)
  have hg := Nat.le_succ_of_le hg
  refine W.cs (cells' := 2) (slots' := 516) rfl rfl ?_
  obtain ⟨k2, h⟩ := h
  refine mz_putFr (x := (some (z + 1))) S hG hM hS cf_10 fd_322 tw_1484 dX11_init_19 (by rw [hnm]; rfl) k2 rfl rfl (fun H locs hM hS hz9 => ?_)
  have hz := hz9.trans hz
  refine lv_aload_n S.1 S.2.1 dX11_init_22 rfl (lv_at hl 0 rfl) ?_
  refine lv_sipush (v := (nI 258)) S.1 S.2.1 dX11_init_23 (by decide) ?_
  refine mz_newa (j := 2) (atype := .int) S hG hM hS hz hg (by decide) rfl tw_136 (N := 258) (nI_pos (Nat.le_of_ble_eq_true rfl)) (nI_clamp (Nat.le_of_ble_eq_true rfl)) (Nat.le_of_ble_eq_true rfl) (Nat.le_of_ble_eq_true rfl) (Nat.le_of_ble_eq_true rfl) dX11_init_26 (fun H hM hS hz => ?_)
  have hg := Nat.le_succ_of_le hg
  refine W.cs (cells' := 3) (slots' := 774) rfl rfl ?_
  obtain ⟨k3, h⟩ := h
  refine mz_putFr (x := (some ((z + 1) + 1))) S hG hM hS cf_10 fd_323 tw_1485 dX11_init_28 (by rw [hnm]; rfl) k3 rfl rfl (fun H locs hM hS hz9 => ?_)
  have hz := hz9.trans hz
  refine lv_aload_n S.1 S.2.1 dX11_init_31 rfl (lv_at hl 0 rfl) ?_
  refine lv_sipush (v := (nI 2064)) S.1 S.2.1 dX11_init_32 (by decide) ?_
  refine mz_newa (j := 2) (atype := .int) S hG hM hS hz hg (by decide) rfl tw_136 (N := 2064) (nI_pos (Nat.le_of_ble_eq_true rfl)) (nI_clamp (Nat.le_of_ble_eq_true rfl)) (Nat.le_of_ble_eq_true rfl) (Nat.le_of_ble_eq_true rfl) (Nat.le_of_ble_eq_true rfl) dX11_init_35 (fun H hM hS hz => ?_)
  have hg := Nat.le_succ_of_le hg
  refine W.cs (cells' := 4) (slots' := 2838) rfl rfl ?_
  obtain ⟨k4, h⟩ := h
  refine mz_putFr (x := (some (((z + 1) + 1) + 1))) S hG hM hS cf_10 fd_324 tw_1486 dX11_init_37 (by rw [hnm]; rfl) k4 rfl rfl (fun H locs hM hS hz9 => ?_)
  have hz := hz9.trans hz
  refine lv_aload_n S.1 S.2.1 dX11_init_40 rfl (lv_at hl 0 rfl) ?_
  refine lv_sipush (v := (nI 258)) S.1 S.2.1 dX11_init_41 (by decide) ?_
  refine mz_newa (j := 2) (atype := .int) S hG hM hS hz hg (by decide) rfl tw_136 (N := 258) (nI_pos (Nat.le_of_ble_eq_true rfl)) (nI_clamp (Nat.le_of_ble_eq_true rfl)) (Nat.le_of_ble_eq_true rfl) (Nat.le_of_ble_eq_true rfl) (Nat.le_of_ble_eq_true rfl) dX11_init_44 (fun H hM hS hz => ?_)
  have hg := Nat.le_succ_of_le hg
  refine W.cs (cells' := 5) (slots' := 3096) rfl rfl ?_
  obtain ⟨k5, h⟩ := h
  refine mz_putFr (x := (some ((((z + 1) + 1) + 1) + 1))) S hG hM hS cf_10 fd_325 tw_1487 dX11_init_46 (by rw [hnm]; rfl) k5 rfl rfl (fun H locs hM hS hz9 => ?_)
  have hz := hz9.trans hz
  refine lv_aload_n S.1 S.2.1 dX11_init_49 rfl (lv_at hl 0 rfl) ?_
  refine lv_bipush (v := (nI 60)) S.1 S.2.1 dX11_init_50 (by decide) ?_
  refine mz_newa (j := 2) (atype := .int) S hG hM hS hz hg (by decide) rfl tw_136 (N := 60) (nI_pos (Nat.le_of_ble_eq_true rfl)) (nI_clamp (Nat.le_of_ble_eq_true rfl)) (Nat.le_of_ble_eq_true rfl) (Nat.le_of_ble_eq_true rfl) (Nat.le_of_ble_eq_true rfl) dX11_init_52 (fun H hM hS hz => ?_)
  have hg := Nat.le_succ_of_le hg
  refine W.cs (cells' := 6) (slots' := 3156) rfl rfl ?_
  obtain ⟨k6, h⟩ := h
  refine mz_putFr (x := (some (((((z + 1) + 1) + 1) + 1) + 1))) S hG hM hS cf_10 fd_328 tw_1490 dX11_init_54 (by rw [hnm]; rfl) k6 rfl rfl (fun H locs hM hS hz9 => ?_)
  have hz := hz9.trans hz
  refine lv_aload_n S.1 S.2.1 dX11_init_57 rfl (lv_at hl 0 rfl) ?_
  refine lv_sipush (v := (nI 180)) S.1 S.2.1 dX11_init_58 (by decide) ?_
  refine mz_newa (j := 2) (atype := .int) S hG hM hS hz hg (by decide) rfl tw_136 (N := 180) (nI_pos (Nat.le_of_ble_eq_true rfl)) (nI_clamp (Nat.le_of_ble_eq_true rfl)) (Nat.le_of_ble_eq_true rfl) (Nat.le_of_ble_eq_true rfl) (Nat.le_of_ble_eq_true rfl) dX11_init_61 (fun H hM hS hz => ?_)
  have hg := Nat.le_succ_of_le hg
  refine W.cs (cells' := 7) (slots' := 3336) rfl rfl ?_
  obtain ⟨k7, h⟩ := h
  refine mz_putFr (x := (some ((((((z + 1) + 1) + 1) + 1) + 1) + 1))) S hG hM hS cf_10 fd_329 tw_1491 dX11_init_63 (by rw [hnm]; rfl) k7 rfl rfl (fun H locs hM hS hz9 => ?_)
  have hz := hz9.trans hz
  refine lv_aload_n S.1 S.2.1 dX11_init_66 rfl (lv_at hl 0 rfl) ?_
  refine lv_bipush (v := (nI 40)) S.1 S.2.1 dX11_init_67 (by decide) ?_
  refine mz_newa (j := 2) (atype := .int) S hG hM hS hz hg (by decide) rfl tw_136 (N := 40) (nI_pos (Nat.le_of_ble_eq_true rfl)) (nI_clamp (Nat.le_of_ble_eq_true rfl)) (Nat.le_of_ble_eq_true rfl) (Nat.le_of_ble_eq_true rfl) (Nat.le_of_ble_eq_true rfl) dX11_init_69 (fun H hM hS hz => ?_)
  have hg := Nat.le_succ_of_le hg
  refine W.cs (cells' := 8) (slots' := 3376) rfl rfl ?_
  obtain ⟨k8, h⟩ := h
  refine mz_putFr (x := (some (((((((z + 1) + 1) + 1) + 1) + 1) + 1) + 1))) S hG hM hS cf_10 fd_330 tw_1492 dX11_init_71 (by rw [hnm]; rfl) k8 rfl rfl (fun H locs hM hS hz9 => ?_)
  have hz := hz9.trans hz
  refine lv_aload_n S.1 S.2.1 dX11_init_74 rfl (lv_at hl 0 rfl) ?_
  refine lv_iconst (v := (-1)) S.1 S.2.1 dX11_init_75 (by decide) ?_
  obtain ⟨k9, h⟩ := h
  refine mz_puti S hG hM hS cf_10 fd_333 tw_1495 dX11_init_76 k9 rfl rfl (fun H locs hM hS hz9 => ?_)
  have hz := hz9.trans hz
  refine lv_aload_n S.1 S.2.1 dX11_init_79 rfl (lv_at hl 0 rfl) ?_
  refine lv_iconst (v := (-1)) S.1 S.2.1 dX11_init_80 (by decide) ?_
  obtain ⟨k10, h⟩ := h
  refine mz_puti S hG hM hS cf_10 fd_334 tw_1496 dX11_init_81 k10 rfl rfl (fun H locs hM hS hz9 => ?_)
  have hz := hz9.trans hz
  exact mz_zret S hr hlk hM hS hz hg (Nat.le_of_ble_eq_true rfl) (Nat.le_of_ble_eq_true rfl) dX11_init_84 h
set_option maxRecDepth 100000 in
set_option maxHeartbeats 4000000 in
theorem c_X11_thrown {l : Launch} {G : mgT} {μ : mmT} {o : Nat} {Q : Int32 → Prop} (h : w_X11_thrown G μ o Q) : MC G l yX11_thrown cX11_thrown 1 (some .int) { frames := 0, cells := 0, slots := 0, locals := 0 } [.ref o] μ (pI (fun r μ' => μ' = μ ∧ Q r)) := by
  refine mz_MC (by decide +kernel) (Nat.le_of_ble_eq_true rfl) (fun p e s m args below meth c S hG hr hlk hnm => ?_)
  intro H locs ls hM hS hl
  have hl : lv_has ls 1 [(0, .ref o)] := hl
  unfold w_X11_thrown at h
  refine lv_aload_n S.1 S.2.1 dX11_thrown_0 rfl (lv_at hl 0 rfl) ?_
  obtain ⟨k1, h⟩ := h
  refine mz_geti S hG hM cf_10 fd_320 tw_1482 dX11_thrown_1 k1 ?_
  exact mz_iret S hr hlk hM hS rfl (Nat.le_of_ble_eq_true rfl) (Nat.le_of_ble_eq_true rfl) dX11_thrown_4 ⟨_, rfl, rfl, h⟩
set_option maxRecDepth 100000 in
set_option maxHeartbeats 4000000 in
theorem c_X11_fails {l : Launch} {G : mgT} {μ : mmT} {o : Nat} {x1 : Int32} {Q : Int32 → mmT → Prop} (h : w_X11_fails G μ o x1 Q) : MC G l yX11_fails cX11_fails 2 (some .int) { frames := 0, cells := 0, slots := 0, locals := 0 } [.ref o, .int x1] μ (pI Q) := by
  refine mz_MC (by decide +kernel) (Nat.le_of_ble_eq_true rfl) (fun p e s m args below meth c S hG hr hlk hnm => ?_)
  intro H locs ls hM hS hl
  have hl : lv_has ls 2 [(0, .ref o), (1, .int x1)] := hl
  unfold w_X11_fails at h
  refine lv_aload_n S.1 S.2.1 dX11_fails_0 rfl (lv_at hl 0 rfl) ?_
  refine lv_iload_n S.1 S.2.1 dX11_fails_1 rfl (lv_at hl 1 rfl) ?_
  obtain ⟨k1, h⟩ := h
  refine mz_puti S hG hM hS cf_10 fd_320 tw_1482 dX11_fails_2 k1 rfl rfl (fun H locs hM hS hz9 => ?_)
  refine lv_iconst (v := (nI 0)) S.1 S.2.1 dX11_fails_5 (by decide) ?_
  exact mz_iret S hr hlk hM hS rfl (Nat.le_of_ble_eq_true rfl) (Nat.le_of_ble_eq_true rfl) dX11_fails_6 ⟨_, rfl, h⟩
set_option maxRecDepth 100000 in
set_option maxHeartbeats 4000000 in
theorem c_X11_in {l : Launch} {G : mgT} {μ : mmT} {x0 : Int32} {x1 : Int32} {x2 : Int32} {Q : Int32 → Prop} (h : w_X11_in G μ x0 x1 x2 Q) : MC G l yX11_in cX11_in 3 (some .boolean) { frames := 0, cells := 0, slots := 0, locals := 0 } [.int x0, .int x1, .int x2] μ (pI (fun r μ' => μ' = μ ∧ Q r)) := by
  refine mz_MC (by decide +kernel) (Nat.le_of_ble_eq_true rfl) (fun p e s m args below meth c S hG hr hlk hnm => ?_)
  have hB15 : ∀ (s0 : Int32) (H : Heap) (locs : List Loc) (ls : Array Slot), Mm G μ H → va_S (Ah G) s.heap H locs → lv_has ls 3 [] → w_X11_in_b15 G μ Q  s0 → W p l e { frames := 0, cells := 0, slots := 0, locals := 0 } s m args below meth c H locs 0 0 (MQ below (mQ G (pI (fun r μ' => μ' = μ ∧ Q r))) args s 0 0 (Ah G)) (F0 m 15 ls [.int s0]) := by
    intro  s0 H locs ls hM hS hl h
    unfold w_X11_in_b15 at h
    obtain ⟨f2, h⟩ := h
    exact mz_iret S hr hlk hM hS (mz_nZ f2) (Nat.le_of_ble_eq_true rfl) (Nat.le_of_ble_eq_true rfl) dX11_in_15 ⟨_, rfl, rfl, h⟩
  have hB14 : ∀  (H : Heap) (locs : List Loc) (ls : Array Slot), Mm G μ H → va_S (Ah G) s.heap H locs → lv_has ls 3 [] → w_X11_in_b14 G μ Q   → W p l e { frames := 0, cells := 0, slots := 0, locals := 0 } s m args below meth c H locs 0 0 (MQ below (mQ G (pI (fun r μ' => μ' = μ ∧ Q r))) args s 0 0 (Ah G)) (F0 m 14 ls []) := by
    intro   H locs ls hM hS hl h
    unfold w_X11_in_b14 at h
    refine lv_iconst (v := (nI 0)) S.1 S.2.1 dX11_in_14 (by decide) ?_
    exact hB15  (nI 0) H locs ls hM hS (lv_sub hl [] rfl) h
  intro H locs ls hM hS hl
  have hl : lv_has ls 3 [(0, .int x0), (1, .int x1), (2, .int x2)] := hl
  unfold w_X11_in at h
  refine lv_iload_n S.1 S.2.1 dX11_in_0 rfl (lv_at hl 0 rfl) ?_
  refine lv_iload_n S.1 S.2.1 dX11_in_1 rfl (lv_at hl 1 rfl) ?_
  refine lv_icmp_lt (tgt := 14) S.1 S.2.1 dX11_in_2 (by decide) (fun c1 => ?_) (fun c1 => ?_)
  · have h := h.1 c1
    exact hB14   H locs ls hM hS (lv_sub hl [] rfl) h
  · have h := h.2 c1
    refine lv_iload_n S.1 S.2.1 dX11_in_5 rfl (lv_at hl 0 rfl) ?_
    refine lv_iload_n S.1 S.2.1 dX11_in_6 rfl (lv_at hl 2 rfl) ?_
    refine lv_icmp_gt (tgt := 14) S.1 S.2.1 dX11_in_7 (by decide) (fun c3 => ?_) (fun c3 => ?_)
    · have h := h.1 c3
      exact hB14   H locs ls hM hS (lv_sub hl [] rfl) h
    · have h := h.2 c3
      refine lv_iconst (v := (nI 1)) S.1 S.2.1 dX11_in_10 (by decide) ?_
      refine lv_goto (tgt := 15) S.1 S.2.1 dX11_in_11 (by decide) ?_
      exact hB15  (nI 1) H locs ls hM hS (lv_sub hl [] rfl) h
set_option maxRecDepth 100000 in
set_option maxHeartbeats 4000000 in
theorem c_X11_remembersAll {l : Launch} {G : mgT} {μ : mmT} {o : Nat} {Q : mmT → Prop} (h : w_X11_remembersAll G μ o Q) : MC G l yX11_remembersAll cX11_remembersAll 2 none { frames := 0, cells := 0, slots := 0, locals := 0 } [.ref o] μ (pV Q) := by
  refine mz_MC (by decide +kernel) (Nat.le_of_ble_eq_true rfl) (fun p e s m args below meth c S hG hr hlk hnm => ?_)
  have hB7 : ∀ (n : Nat) (x1 : Int32) (μ : mmT) (H : Heap) (locs : List Loc) (ls : Array Slot), Mm G μ H → va_S (Ah G) s.heap H locs → lv_has ls 2 [(0, .ref o), (1, .int x1)] → w_X11_remembersAll_l7 G o Q  n x1 μ → W p l e { frames := 0, cells := 0, slots := 0, locals := 0 } s m args below meth c H locs 0 0 (MQ below (mQ G (pV Q)) args s 0 0 (Ah G)) (F0 m 7 ls []) := by
    intro  n
    induction n with
    | zero =>
      intro x1 μ H locs ls hM hS hl h
      exact False.elim h
    | succ n ih =>
      intro x1 μ H locs ls hM hS hl h
      have h : w_X11_remembersAll_b7 G o Q  (w_X11_remembersAll_l7 G o Q  n) x1 μ := h
      unfold w_X11_remembersAll_b7 at h
      refine lv_iload_n S.1 S.2.1 dX11_remembersAll_7 rfl (lv_at hl 1 rfl) ?_
      refine lv_sipush (v := (nI 258)) S.1 S.2.1 dX11_remembersAll_8 (by decide) ?_
      refine lv_icmp_ge (tgt := 32) S.1 S.2.1 dX11_remembersAll_11 (by decide) (fun c2 => ?_) (fun c2 => ?_)
      · have h := h.1 c2
        exact mz_vret S hr hlk hM hS (Nat.le_of_ble_eq_true rfl) (Nat.le_of_ble_eq_true rfl) dX11_remembersAll_32 ⟨rfl, h⟩
      · have h := h.2 c2
        refine lv_aload_n S.1 S.2.1 dX11_remembersAll_14 rfl (lv_at hl 0 rfl) ?_
        obtain ⟨k3, h⟩ := h
        refine mz_getr S hG hM cf_10 fd_322 tw_1484 dX11_remembersAll_15 k3 ?_
        refine lv_iload_n S.1 S.2.1 dX11_remembersAll_18 rfl (lv_at hl 1 rfl) ?_
        refine lv_aload_n S.1 S.2.1 dX11_remembersAll_19 rfl (lv_at hl 0 rfl) ?_
        refine mz_getr S hG hM cf_10 fd_321 tw_1483 dX11_remembersAll_20 k3 ?_
        refine lv_iload_n S.1 S.2.1 dX11_remembersAll_23 rfl (lv_at hl 1 rfl) ?_
        obtain ⟨a4, e5, h⟩ := h
        refine mz_o1 e5 ?_
        obtain ⟨k6, h⟩ := h
        obtain ⟨b7, h⟩ := h
        refine mz_iald S hG hM dX11_remembersAll_24 k6 b7 ?_
        obtain ⟨a8, e9, h⟩ := h
        refine mz_o2 e9 ?_
        obtain ⟨k10, h⟩ := h
        obtain ⟨b11, h⟩ := h
        refine mz_iast S hG hM hS dX11_remembersAll_25 k10 b11 (fun H locs hM hS hz9 => ?_)
        refine lv_iinc (v := (x1 + nI 1)) (lv' := [(1, .int (x1 + nI 1)), (0, .ref o)]) S.1 S.2.1 dX11_remembersAll_26 hl (k := 1) rfl rfl (by decide) rfl (fun ls hl => ?_)
        refine lv_goto (tgt := 7) S.1 S.2.1 dX11_remembersAll_29 (by decide) ?_
        exact ih (x1 + nI 1) (sA μ a8 x1.toNatClampNeg (mA μ a4 x1.toNatClampNeg)) H locs ls hM hS (lv_sub hl [1, 0] rfl) h
  intro H locs ls hM hS hl
  have hl : lv_has ls 2 [(0, .ref o)] := hl
  unfold w_X11_remembersAll at h
  refine lv_aload_n S.1 S.2.1 dX11_remembersAll_0 rfl (lv_at hl 0 rfl) ?_
  refine lv_iconst (v := (nI 0)) S.1 S.2.1 dX11_remembersAll_1 (by decide) ?_
  obtain ⟨k1, h⟩ := h
  refine mz_puti S hG hM hS cf_10 fd_320 tw_1482 dX11_remembersAll_2 k1 rfl rfl (fun H locs hM hS hz9 => ?_)
  refine lv_iconst (v := (nI 0)) S.1 S.2.1 dX11_remembersAll_5 (by decide) ?_
  refine lv_istore_n (lv' := [(1, .int (nI 0)), (0, .ref o)]) S.1 S.2.1 dX11_remembersAll_6 rfl hl (by decide) rfl (fun ls hl => ?_)
  obtain ⟨n9, h⟩ := h
  exact hB7  n9 (nI 0) (sI μ 320 o (nI 0)) H locs ls hM hS (lv_sub hl [1, 0] rfl) h
set_option maxRecDepth 100000 in
set_option maxHeartbeats 4000000 in
theorem c_X11_changed {l : Launch} {G : mgT} {μ : mmT} {o : Nat} {x1 : Int32} {Q : Int32 → mmT → Prop} (h : w_X11_changed G μ o x1 Q) : MC G l yX11_changed cX11_changed 3 (some .int) { frames := 0, cells := 0, slots := 0, locals := 0 } [.ref o, .int x1] μ (pI Q) := by
  refine mz_MC (by decide +kernel) (Nat.le_of_ble_eq_true rfl) (fun p e s m args below meth c S hG hr hlk hnm => ?_)
  have hB55 : ∀ (n : Nat) (x1 : Int32) (x2 : Int32) (μ : mmT) (H : Heap) (locs : List Loc) (ls : Array Slot), Mm G μ H → va_S (Ah G) s.heap H locs → lv_has ls 3 [(0, .ref o), (1, .int x1), (2, .int x2)] → w_X11_changed_l55 G o Q  n x1 x2 μ → W p l e { frames := 0, cells := 0, slots := 0, locals := 0 } s m args below meth c H locs 0 0 (MQ below (mQ G (pI Q)) args s 0 0 (Ah G)) (F0 m 55 ls []) := by
    intro  n
    induction n with
    | zero =>
      intro x1 x2 μ H locs ls hM hS hl h
      exact False.elim h
    | succ n ih =>
      intro x1 x2 μ H locs ls hM hS hl h
      have h : w_X11_changed_b55 G o Q  (w_X11_changed_l55 G o Q  n) x1 x2 μ := h
      unfold w_X11_changed_b55 at h
      refine lv_iload_n S.1 S.2.1 dX11_changed_55 rfl (lv_at hl 2 rfl) ?_
      refine lv_sipush (v := (nI 258)) S.1 S.2.1 dX11_changed_56 (by decide) ?_
      refine lv_icmp_ge (tgt := 91) S.1 S.2.1 dX11_changed_59 (by decide) (fun c3 => ?_) (fun c3 => ?_)
      · have h := h.1 c3
        refine lv_iload_n S.1 S.2.1 dX11_changed_91 rfl (lv_at hl 1 rfl) ?_
        exact mz_iret S hr hlk hM hS rfl (Nat.le_of_ble_eq_true rfl) (Nat.le_of_ble_eq_true rfl) dX11_changed_92 ⟨_, rfl, h⟩
      · have h := h.2 c3
        refine lv_aload_n S.1 S.2.1 dX11_changed_62 rfl (lv_at hl 0 rfl) ?_
        obtain ⟨k4, h⟩ := h
        refine mz_getr S hG hM cf_10 fd_324 tw_1486 dX11_changed_63 k4 ?_
        refine lv_sipush (v := (nI 258)) S.1 S.2.1 dX11_changed_66 (by decide) ?_
        refine lv_aload_n S.1 S.2.1 dX11_changed_69 rfl (lv_at hl 0 rfl) ?_
        refine mz_geti S hG hM cf_10 fd_326 tw_1488 dX11_changed_70 k4 ?_
        refine lv_iconst (v := (nI 1)) S.1 S.2.1 dX11_changed_73 (by decide) ?_
        refine lv_isub S.1 S.2.1 dX11_changed_74 ?_
        refine lv_imul S.1 S.2.1 dX11_changed_75 ?_
        refine lv_iload_n S.1 S.2.1 dX11_changed_76 rfl (lv_at hl 2 rfl) ?_
        refine lv_iadd S.1 S.2.1 dX11_changed_77 ?_
        refine lv_aload_n S.1 S.2.1 dX11_changed_78 rfl (lv_at hl 0 rfl) ?_
        refine mz_getr S hG hM cf_10 fd_322 tw_1484 dX11_changed_79 k4 ?_
        refine lv_iload_n S.1 S.2.1 dX11_changed_82 rfl (lv_at hl 2 rfl) ?_
        obtain ⟨a5, e6, h⟩ := h
        refine mz_o1 e6 ?_
        obtain ⟨k7, h⟩ := h
        obtain ⟨b8, h⟩ := h
        refine mz_iald S hG hM dX11_changed_83 k7 b8 ?_
        obtain ⟨a9, e10, h⟩ := h
        refine mz_o2 e10 ?_
        obtain ⟨k11, h⟩ := h
        obtain ⟨b12, h⟩ := h
        refine mz_iast S hG hM hS dX11_changed_84 k11 b12 (fun H locs hM hS hz9 => ?_)
        refine lv_iinc (v := (x2 + nI 1)) (lv' := [(2, .int (x2 + nI 1)), (0, .ref o), (1, .int x1)]) S.1 S.2.1 dX11_changed_85 hl (k := 2) rfl rfl (by decide) rfl (fun ls hl => ?_)
        refine lv_goto (tgt := 55) S.1 S.2.1 dX11_changed_88 (by decide) ?_
        exact ih x1 (x2 + nI 1) (sA μ a9 (((nI 258) * ((mI μ 326 o) - (nI 1))) + x2).toNatClampNeg (mA μ a5 x2.toNatClampNeg)) H locs ls hM hS (lv_sub hl [1, 2, 0] rfl) h
  have hB53 : ∀ (x1 : Int32) (μ : mmT) (H : Heap) (locs : List Loc) (ls : Array Slot), Mm G μ H → va_S (Ah G) s.heap H locs → lv_has ls 3 [(0, .ref o), (1, .int x1)] → w_X11_changed_b53 G o Q  x1 μ → W p l e { frames := 0, cells := 0, slots := 0, locals := 0 } s m args below meth c H locs 0 0 (MQ below (mQ G (pI Q)) args s 0 0 (Ah G)) (F0 m 53 ls []) := by
    intro  x1 μ H locs ls hM hS hl h
    unfold w_X11_changed_b53 at h
    refine lv_iconst (v := (nI 0)) S.1 S.2.1 dX11_changed_53 (by decide) ?_
    refine lv_istore_n (lv' := [(2, .int (nI 0)), (0, .ref o), (1, .int x1)]) S.1 S.2.1 dX11_changed_54 rfl hl (by decide) rfl (fun ls hl => ?_)
    obtain ⟨n9, h⟩ := h
    exact hB55  n9 x1 (nI 0) μ H locs ls hM hS (lv_sub hl [1, 2, 0] rfl) h
  have hB11 : ∀ (n : Nat) (x1 : Int32) (x2 : Int32) (μ : mmT) (H : Heap) (locs : List Loc) (ls : Array Slot), Mm G μ H → va_S (Ah G) s.heap H locs → lv_has ls 3 [(0, .ref o), (1, .int x1), (2, .int x2)] → w_X11_changed_l11 G o Q  n x1 x2 μ → W p l e { frames := 0, cells := 0, slots := 0, locals := 0 } s m args below meth c H locs 0 0 (MQ below (mQ G (pI Q)) args s 0 0 (Ah G)) (F0 m 11 ls []) := by
    intro  n
    induction n with
    | zero =>
      intro x1 x2 μ H locs ls hM hS hl h
      exact False.elim h
    | succ n ih =>
      intro x1 x2 μ H locs ls hM hS hl h
      have h : w_X11_changed_b11 G o Q  (w_X11_changed_l11 G o Q  n) x1 x2 μ := h
      unfold w_X11_changed_b11 at h
      refine lv_iload_n S.1 S.2.1 dX11_changed_11 rfl (lv_at hl 2 rfl) ?_
      refine lv_sipush (v := (nI 1806)) S.1 S.2.1 dX11_changed_12 (by decide) ?_
      refine lv_icmp_ge (tgt := 40) S.1 S.2.1 dX11_changed_15 (by decide) (fun c13 => ?_) (fun c13 => ?_)
      · have h := h.1 c13
        refine lv_goto (tgt := 53) S.1 S.2.1 dX11_changed_40 (by decide) ?_
        exact hB53  x1 μ H locs ls hM hS (lv_sub hl [0, 1] rfl) h
      · have h := h.2 c13
        refine lv_aload_n S.1 S.2.1 dX11_changed_18 rfl (lv_at hl 0 rfl) ?_
        obtain ⟨k14, h⟩ := h
        refine mz_getr S hG hM cf_10 fd_324 tw_1486 dX11_changed_19 k14 ?_
        refine lv_iload_n S.1 S.2.1 dX11_changed_22 rfl (lv_at hl 2 rfl) ?_
        refine lv_aload_n S.1 S.2.1 dX11_changed_23 rfl (lv_at hl 0 rfl) ?_
        refine mz_getr S hG hM cf_10 fd_324 tw_1486 dX11_changed_24 k14 ?_
        refine lv_iload_n S.1 S.2.1 dX11_changed_27 rfl (lv_at hl 2 rfl) ?_
        refine lv_sipush (v := (nI 258)) S.1 S.2.1 dX11_changed_28 (by decide) ?_
        refine lv_iadd S.1 S.2.1 dX11_changed_31 ?_
        obtain ⟨a15, e16, h⟩ := h
        refine mz_o1 e16 ?_
        obtain ⟨k17, h⟩ := h
        obtain ⟨b18, h⟩ := h
        refine mz_iald S hG hM dX11_changed_32 k17 b18 ?_
        refine mz_o2 e16 ?_
        obtain ⟨b19, h⟩ := h
        refine mz_iast S hG hM hS dX11_changed_33 k17 b19 (fun H locs hM hS hz9 => ?_)
        refine lv_iinc (v := (x2 + nI 1)) (lv' := [(2, .int (x2 + nI 1)), (0, .ref o), (1, .int x1)]) S.1 S.2.1 dX11_changed_34 hl (k := 2) rfl rfl (by decide) rfl (fun ls hl => ?_)
        refine lv_goto (tgt := 11) S.1 S.2.1 dX11_changed_37 (by decide) ?_
        exact ih x1 (x2 + nI 1) (sA μ a15 x2.toNatClampNeg (mA μ a15 (x2 + (nI 258)).toNatClampNeg)) H locs ls hM hS (lv_sub hl [1, 2, 0] rfl) h
  intro H locs ls hM hS hl
  have hl : lv_has ls 3 [(0, .ref o), (1, .int x1)] := hl
  unfold w_X11_changed at h
  refine lv_aload_n S.1 S.2.1 dX11_changed_0 rfl (lv_at hl 0 rfl) ?_
  obtain ⟨k1, h⟩ := h
  refine mz_geti S hG hM cf_10 fd_326 tw_1488 dX11_changed_1 k1 ?_
  refine lv_bipush (v := (nI 8)) S.1 S.2.1 dX11_changed_4 (by decide) ?_
  refine lv_icmp_ne (tgt := 43) S.1 S.2.1 dX11_changed_6 (by decide) (fun c2 => ?_) (fun c2 => ?_)
  · have h := h.1 c2
    refine lv_aload_n S.1 S.2.1 dX11_changed_43 rfl (lv_at hl 0 rfl) ?_
    refine lv_dup S.1 S.2.1 dX11_changed_44 rfl ?_
    refine mz_geti S hG hM cf_10 fd_326 tw_1488 dX11_changed_45 k1 ?_
    refine lv_iconst (v := (nI 1)) S.1 S.2.1 dX11_changed_48 (by decide) ?_
    refine lv_iadd S.1 S.2.1 dX11_changed_49 ?_
    refine mz_puti S hG hM hS cf_10 fd_326 tw_1488 dX11_changed_50 k1 rfl rfl (fun H locs hM hS hz9 => ?_)
    exact hB53  x1 (sI μ 326 o ((mI μ 326 o) + (nI 1))) H locs ls hM hS (lv_sub hl [0, 1] rfl) h
  · have h := h.2 c2
    refine lv_iconst (v := (nI 0)) S.1 S.2.1 dX11_changed_9 (by decide) ?_
    refine lv_istore_n (lv' := [(2, .int (nI 0)), (0, .ref o), (1, .int x1)]) S.1 S.2.1 dX11_changed_10 rfl hl (by decide) rfl (fun ls hl => ?_)
    obtain ⟨n9, h⟩ := h
    exact hB11  n9 x1 (nI 0) μ H locs ls hM hS (lv_sub hl [1, 2, 0] rfl) h
set_option maxRecDepth 100000 in
set_option maxHeartbeats 4000000 in
theorem c_X11_done {l : Launch} {G : mgT} {μ : mmT} {o : Nat} {x1 : Int32} {Q : Int32 → mmT → Prop} (h : w_X11_done G μ o x1 Q) : MC G l yX11_done cX11_done 2 (some .int) { frames := 0, cells := 0, slots := 0, locals := 0 } [.ref o, .int x1] μ (pI Q) := by
  refine mz_MC (by decide +kernel) (Nat.le_of_ble_eq_true rfl) (fun p e s m args below meth c S hG hr hlk hnm => ?_)
  intro H locs ls hM hS hl
  have hl : lv_has ls 2 [(0, .ref o), (1, .int x1)] := hl
  unfold w_X11_done at h
  refine lv_aload_n S.1 S.2.1 dX11_done_0 rfl (lv_at hl 0 rfl) ?_
  refine lv_iload_n S.1 S.2.1 dX11_done_1 rfl (lv_at hl 1 rfl) ?_
  obtain ⟨k1, h⟩ := h
  refine mz_puti S hG hM hS cf_10 fd_335 tw_1497 dX11_done_2 k1 rfl rfl (fun H locs hM hS hz9 => ?_)
  refine lv_iconst (v := (nI 0)) S.1 S.2.1 dX11_done_5 (by decide) ?_
  exact mz_iret S hr hlk hM hS rfl (Nat.le_of_ble_eq_true rfl) (Nat.le_of_ble_eq_true rfl) dX11_done_6 ⟨_, rfl, h⟩
set_option maxRecDepth 100000 in
set_option maxHeartbeats 4000000 in
theorem c_X11_ends {l : Launch} {G : mgT} {μ : mmT} {o : Nat} {x1 : Int32} {Q : Int32 → mmT → Prop} (h : w_X11_ends G μ o x1 Q) : MC G l yX11_ends cX11_ends 2 (some .int) { frames := 1, cells := 0, slots := 0, locals := 22 } [.ref o, .int x1] μ (pI Q) := by
  refine mz_MC (by decide +kernel) (Nat.le_of_ble_eq_true rfl) (fun p e s m args below meth c S hG hr hlk hnm => ?_)
  have hB20 : ∀ (s0 : Int32) (μ : mmT) (H : Heap) (locs : List Loc) (ls : Array Slot), Mm G μ H → va_S (Ah G) s.heap H locs → lv_has ls 2 [(0, .ref o)] → w_X11_ends_b20 G o Q  s0 μ → W p l e { frames := 1, cells := 0, slots := 0, locals := 22 } s m args below meth c H locs 0 0 (MQ below (mQ G (pI Q)) args s 0 0 (Ah G)) (F0 m 20 ls [.int s0]) := by
    intro  s0 μ H locs ls hM hS hl h
    unfold w_X11_ends_b20 at h
    exact mz_iret S hr hlk hM hS rfl (Nat.le_of_ble_eq_true rfl) (Nat.le_of_ble_eq_true rfl) dX11_ends_20 ⟨_, rfl, h⟩
  intro H locs ls hM hS hl
  have hl : lv_has ls 2 [(0, .ref o), (1, .int x1)] := hl
  unfold w_X11_ends at h
  refine lv_iload_n S.1 S.2.1 dX11_ends_0 rfl (lv_at hl 1 rfl) ?_
  refine lv_if_ne (tgt := 15) S.1 S.2.1 dX11_ends_1 (by decide) (fun c1 => ?_) (fun c1 => ?_)
  · have h := h.1 c1
    refine lv_aload_n S.1 S.2.1 dX11_ends_15 rfl (lv_at hl 0 rfl) ?_
    refine lv_iload_n S.1 S.2.1 dX11_ends_16 rfl (lv_at hl 1 rfl) ?_
    obtain ⟨k2, h⟩ := h
    refine mz_V S hG hM hS cf_10 k2 (As := [.int x1]) (rest := []) (c_X11_fails h) yf_X11_fails tw_1578 tw_1580 ts_28 ⟨Nat.le_of_ble_eq_true rfl, Nat.le_of_ble_eq_true rfl⟩ ⟨(Nat.le_of_ble_eq_true rfl), (Nat.le_of_ble_eq_true rfl)⟩ rfl hl.1 rfl (Nat.le_of_ble_eq_true rfl) dX11_ends_17 (fun v9 μ4 H locs hp hM hS => ?_)
    obtain ⟨u3, rfl, h⟩ := hp
    refine W.cs (cells' := 0) (slots' := 0) rfl rfl ?_
    exact hB20  u3 μ4 H locs ls hM hS (lv_sub hl [0] rfl) h
  · have h := h.2 c1
    refine lv_aload_n S.1 S.2.1 dX11_ends_4 rfl (lv_at hl 0 rfl) ?_
    refine lv_aload_n S.1 S.2.1 dX11_ends_5 rfl (lv_at hl 0 rfl) ?_
    obtain ⟨k5, h⟩ := h
    refine mz_geti S hG hM cf_10 fd_335 tw_1497 dX11_ends_6 k5 ?_
    refine mz_V S hG hM hS cf_10 k5 (As := [.int (mI μ 335 o)]) (rest := []) (c_X11_changed h) yf_X11_changed tw_1574 tw_1576 ts_27 ⟨Nat.le_of_ble_eq_true rfl, Nat.le_of_ble_eq_true rfl⟩ ⟨(Nat.le_of_ble_eq_true rfl), (Nat.le_of_ble_eq_true rfl)⟩ rfl hl.1 rfl (Nat.le_of_ble_eq_true rfl) dX11_ends_9 (fun v9 μ7 H locs hp hM hS => ?_)
    obtain ⟨u6, rfl, h⟩ := hp
    refine W.cs (cells' := 0) (slots' := 0) rfl rfl ?_
    refine lv_goto (tgt := 20) S.1 S.2.1 dX11_ends_12 (by decide) ?_
    exact hB20  u6 μ7 H locs ls hM hS (lv_sub hl [0] rfl) h
set_option maxRecDepth 100000 in
set_option maxHeartbeats 4000000 in
theorem c_X11_isNest {l : Launch} {G : mgT} {μ : mmT} {o : Nat} {x1 : Int32} {Q : Int32 → Prop} (h : w_X11_isNest G μ o x1 Q) : MC G l yX11_isNest cX11_isNest 2 (some .boolean) { frames := 1, cells := 0, slots := 0, locals := 22 } [.ref o, .int x1] μ (pI (fun r μ' => μ' = μ ∧ Q r)) := by
  refine mz_MC (by decide +kernel) (Nat.le_of_ble_eq_true rfl) (fun p e s m args below meth c S hG hr hlk hnm => ?_)
  intro H locs ls hM hS hl
  have hl : lv_has ls 2 [(0, .ref o), (1, .int x1)] := hl
  unfold w_X11_isNest at h
  refine lv_iload_n S.1 S.2.1 dX11_isNest_0 rfl (lv_at hl 1 rfl) ?_
  refine lv_iconst (v := (nI 0)) S.1 S.2.1 dX11_isNest_1 (by decide) ?_
  refine lv_aload_n S.1 S.2.1 dX11_isNest_2 rfl (lv_at hl 0 rfl) ?_
  obtain ⟨k1, h⟩ := h
  refine mz_getr S hG hM cf_10 fd_321 tw_1483 dX11_isNest_3 k1 ?_
  refine lv_iconst (v := (nI 0)) S.1 S.2.1 dX11_isNest_6 (by decide) ?_
  obtain ⟨a2, e3, h⟩ := h
  refine mz_o1 e3 ?_
  obtain ⟨k4, h⟩ := h
  obtain ⟨b5, h⟩ := h
  refine mz_iald S hG hM dX11_isNest_7 k4 b5 ?_
  refine lv_iconst (v := (nI 1)) S.1 S.2.1 dX11_isNest_8 (by decide) ?_
  refine lv_isub S.1 S.2.1 dX11_isNest_9 ?_
  refine mz_S S hG hM hS (As := [.int x1, .int (nI 0), .int ((mA μ a2 (nI 0).toNatClampNeg) - (nI 1))]) (rest := []) (c_X11_in h) yf_X11_in tw_1559 tw_1560 ⟨Nat.le_of_ble_eq_true rfl, Nat.le_of_ble_eq_true rfl⟩ ⟨(Nat.le_of_ble_eq_true rfl), (Nat.le_of_ble_eq_true rfl)⟩ rfl hl.1 rfl (Nat.le_of_ble_eq_true rfl) dX11_isNest_10 (fun v9 μ9 H locs hp hM hS => ?_)
  obtain ⟨u6, rfl, e9, h⟩ := hp
  rw [e9] at hM
  refine W.cs (cells' := 0) (slots' := 0) rfl rfl ?_
  obtain ⟨f7, h⟩ := h
  exact mz_iret S hr hlk hM hS (mz_nZ f7) (Nat.le_of_ble_eq_true rfl) (Nat.le_of_ble_eq_true rfl) dX11_isNest_13 ⟨_, rfl, rfl, h⟩
set_option maxRecDepth 100000 in
set_option maxHeartbeats 4000000 in
theorem c_X11_isCrow {l : Launch} {G : mgT} {μ : mmT} {o : Nat} {x1 : Int32} {Q : Int32 → Prop} (h : w_X11_isCrow G μ o x1 Q) : MC G l yX11_isCrow cX11_isCrow 2 (some .boolean) { frames := 1, cells := 0, slots := 0, locals := 22 } [.ref o, .int x1] μ (pI (fun r μ' => μ' = μ ∧ Q r)) := by
  refine mz_MC (by decide +kernel) (Nat.le_of_ble_eq_true rfl) (fun p e s m args below meth c S hG hr hlk hnm => ?_)
  intro H locs ls hM hS hl
  have hl : lv_has ls 2 [(0, .ref o), (1, .int x1)] := hl
  unfold w_X11_isCrow at h
  refine lv_iload_n S.1 S.2.1 dX11_isCrow_0 rfl (lv_at hl 1 rfl) ?_
  refine lv_iconst (v := (nI 0)) S.1 S.2.1 dX11_isCrow_1 (by decide) ?_
  refine lv_aload_n S.1 S.2.1 dX11_isCrow_2 rfl (lv_at hl 0 rfl) ?_
  obtain ⟨k1, h⟩ := h
  refine mz_getr S hG hM cf_10 fd_321 tw_1483 dX11_isCrow_3 k1 ?_
  refine lv_iconst (v := (nI 1)) S.1 S.2.1 dX11_isCrow_6 (by decide) ?_
  obtain ⟨a2, e3, h⟩ := h
  refine mz_o1 e3 ?_
  obtain ⟨k4, h⟩ := h
  obtain ⟨b5, h⟩ := h
  refine mz_iald S hG hM dX11_isCrow_7 k4 b5 ?_
  refine lv_iconst (v := (nI 1)) S.1 S.2.1 dX11_isCrow_8 (by decide) ?_
  refine lv_isub S.1 S.2.1 dX11_isCrow_9 ?_
  refine mz_S S hG hM hS (As := [.int x1, .int (nI 0), .int ((mA μ a2 (nI 1).toNatClampNeg) - (nI 1))]) (rest := []) (c_X11_in h) yf_X11_in tw_1559 tw_1560 ⟨Nat.le_of_ble_eq_true rfl, Nat.le_of_ble_eq_true rfl⟩ ⟨(Nat.le_of_ble_eq_true rfl), (Nat.le_of_ble_eq_true rfl)⟩ rfl hl.1 rfl (Nat.le_of_ble_eq_true rfl) dX11_isCrow_10 (fun v9 μ9 H locs hp hM hS => ?_)
  obtain ⟨u6, rfl, e9, h⟩ := hp
  rw [e9] at hM
  refine W.cs (cells' := 0) (slots' := 0) rfl rfl ?_
  obtain ⟨f7, h⟩ := h
  exact mz_iret S hr hlk hM hS (mz_nZ f7) (Nat.le_of_ble_eq_true rfl) (Nat.le_of_ble_eq_true rfl) dX11_isCrow_13 ⟨_, rfl, rfl, h⟩
set_option maxRecDepth 100000 in
set_option maxHeartbeats 4000000 in
theorem c_X11_nest {l : Launch} {G : mgT} {μ : mmT} {o : Nat} {x1 : Int32} {x2 : Int32} {Q : Int32 → Prop} (h : w_X11_nest G μ o x1 x2 Q) : MC G l yX11_nest cX11_nest 3 (some .int) { frames := 0, cells := 0, slots := 0, locals := 0 } [.ref o, .int x1, .int x2] μ (pI (fun r μ' => μ' = μ ∧ Q r)) := by
  refine mz_MC (by decide +kernel) (Nat.le_of_ble_eq_true rfl) (fun p e s m args below meth c S hG hr hlk hnm => ?_)
  intro H locs ls hM hS hl
  have hl : lv_has ls 3 [(0, .ref o), (1, .int x1), (2, .int x2)] := hl
  unfold w_X11_nest at h
  refine lv_aload_n S.1 S.2.1 dX11_nest_0 rfl (lv_at hl 0 rfl) ?_
  obtain ⟨k1, h⟩ := h
  refine mz_getr S hG hM cf_10 fd_321 tw_1483 dX11_nest_1 k1 ?_
  refine lv_bipush (v := (nI 12)) S.1 S.2.1 dX11_nest_4 (by decide) ?_
  refine lv_bipush (v := (nI 21)) S.1 S.2.1 dX11_nest_6 (by decide) ?_
  refine lv_iload_n S.1 S.2.1 dX11_nest_8 rfl (lv_at hl 1 rfl) ?_
  refine lv_imul S.1 S.2.1 dX11_nest_9 ?_
  refine lv_iadd S.1 S.2.1 dX11_nest_10 ?_
  refine lv_iload_n S.1 S.2.1 dX11_nest_11 rfl (lv_at hl 2 rfl) ?_
  refine lv_iadd S.1 S.2.1 dX11_nest_12 ?_
  obtain ⟨a2, e3, h⟩ := h
  refine mz_o1 e3 ?_
  obtain ⟨k4, h⟩ := h
  obtain ⟨b5, h⟩ := h
  refine mz_iald S hG hM dX11_nest_13 k4 b5 ?_
  exact mz_iret S hr hlk hM hS rfl (Nat.le_of_ble_eq_true rfl) (Nat.le_of_ble_eq_true rfl) dX11_nest_14 ⟨_, rfl, rfl, h⟩
set_option maxRecDepth 100000 in
set_option maxHeartbeats 4000000 in
theorem c_X11_setsNest {l : Launch} {G : mgT} {μ : mmT} {o : Nat} {x1 : Int32} {x2 : Int32} {x3 : Int32} {Q : mmT → Prop} (h : w_X11_setsNest G μ o x1 x2 x3 Q) : MC G l yX11_setsNest cX11_setsNest 4 none { frames := 0, cells := 0, slots := 0, locals := 0 } [.ref o, .int x1, .int x2, .int x3] μ (pV Q) := by
  refine mz_MC (by decide +kernel) (Nat.le_of_ble_eq_true rfl) (fun p e s m args below meth c S hG hr hlk hnm => ?_)
  intro H locs ls hM hS hl
  have hl : lv_has ls 4 [(0, .ref o), (1, .int x1), (2, .int x2), (3, .int x3)] := hl
  unfold w_X11_setsNest at h
  refine lv_aload_n S.1 S.2.1 dX11_setsNest_0 rfl (lv_at hl 0 rfl) ?_
  obtain ⟨k1, h⟩ := h
  refine mz_getr S hG hM cf_10 fd_321 tw_1483 dX11_setsNest_1 k1 ?_
  refine lv_bipush (v := (nI 12)) S.1 S.2.1 dX11_setsNest_4 (by decide) ?_
  refine lv_bipush (v := (nI 21)) S.1 S.2.1 dX11_setsNest_6 (by decide) ?_
  refine lv_iload_n S.1 S.2.1 dX11_setsNest_8 rfl (lv_at hl 1 rfl) ?_
  refine lv_imul S.1 S.2.1 dX11_setsNest_9 ?_
  refine lv_iadd S.1 S.2.1 dX11_setsNest_10 ?_
  refine lv_iload_n S.1 S.2.1 dX11_setsNest_11 rfl (lv_at hl 2 rfl) ?_
  refine lv_iadd S.1 S.2.1 dX11_setsNest_12 ?_
  refine lv_iload_n S.1 S.2.1 dX11_setsNest_13 rfl (lv_at hl 3 rfl) ?_
  obtain ⟨a2, e3, h⟩ := h
  refine mz_o2 e3 ?_
  obtain ⟨k4, h⟩ := h
  obtain ⟨b5, h⟩ := h
  refine mz_iast S hG hM hS dX11_setsNest_14 k4 b5 (fun H locs hM hS hz9 => ?_)
  exact mz_vret S hr hlk hM hS (Nat.le_of_ble_eq_true rfl) (Nat.le_of_ble_eq_true rfl) dX11_setsNest_15 ⟨rfl, h⟩
set_option maxRecDepth 100000 in
set_option maxHeartbeats 4000000 in
theorem c_X11_of {l : Launch} {G : mgT} {μ : mmT} {o : Nat} {x1 : Int32} {x2 : Int32} {Q : Int32 → Prop} (h : w_X11_of G μ o x1 x2 Q) : MC G l yX11_of cX11_of 3 (some .int) { frames := 0, cells := 0, slots := 0, locals := 0 } [.ref o, .int x1, .int x2] μ (pI (fun r μ' => μ' = μ ∧ Q r)) := by
  refine mz_MC (by decide +kernel) (Nat.le_of_ble_eq_true rfl) (fun p e s m args below meth c S hG hr hlk hnm => ?_)
  intro H locs ls hM hS hl
  have hl : lv_has ls 3 [(0, .ref o), (1, .int x1), (2, .int x2)] := hl
  unfold w_X11_of at h
  refine lv_aload_n S.1 S.2.1 dX11_of_0 rfl (lv_at hl 0 rfl) ?_
  obtain ⟨k1, h⟩ := h
  refine mz_getr S hG hM cf_10 fd_321 tw_1483 dX11_of_1 k1 ?_
  refine lv_sipush (v := (nI 146)) S.1 S.2.1 dX11_of_4 (by decide) ?_
  refine lv_bipush (v := (nI 7)) S.1 S.2.1 dX11_of_7 (by decide) ?_
  refine lv_iload_n S.1 S.2.1 dX11_of_9 rfl (lv_at hl 1 rfl) ?_
  refine lv_imul S.1 S.2.1 dX11_of_10 ?_
  refine lv_iadd S.1 S.2.1 dX11_of_11 ?_
  refine lv_iload_n S.1 S.2.1 dX11_of_12 rfl (lv_at hl 2 rfl) ?_
  refine lv_iadd S.1 S.2.1 dX11_of_13 ?_
  obtain ⟨a2, e3, h⟩ := h
  refine mz_o1 e3 ?_
  obtain ⟨k4, h⟩ := h
  obtain ⟨b5, h⟩ := h
  refine mz_iald S hG hM dX11_of_14 k4 b5 ?_
  exact mz_iret S hr hlk hM hS rfl (Nat.le_of_ble_eq_true rfl) (Nat.le_of_ble_eq_true rfl) dX11_of_15 ⟨_, rfl, rfl, h⟩
set_option maxRecDepth 100000 in
set_option maxHeartbeats 4000000 in
theorem c_X11_sets {l : Launch} {G : mgT} {μ : mmT} {o : Nat} {x1 : Int32} {x2 : Int32} {x3 : Int32} {Q : mmT → Prop} (h : w_X11_sets G μ o x1 x2 x3 Q) : MC G l yX11_sets cX11_sets 4 none { frames := 0, cells := 0, slots := 0, locals := 0 } [.ref o, .int x1, .int x2, .int x3] μ (pV Q) := by
  refine mz_MC (by decide +kernel) (Nat.le_of_ble_eq_true rfl) (fun p e s m args below meth c S hG hr hlk hnm => ?_)
  intro H locs ls hM hS hl
  have hl : lv_has ls 4 [(0, .ref o), (1, .int x1), (2, .int x2), (3, .int x3)] := hl
  unfold w_X11_sets at h
  refine lv_aload_n S.1 S.2.1 dX11_sets_0 rfl (lv_at hl 0 rfl) ?_
  obtain ⟨k1, h⟩ := h
  refine mz_getr S hG hM cf_10 fd_321 tw_1483 dX11_sets_1 k1 ?_
  refine lv_sipush (v := (nI 146)) S.1 S.2.1 dX11_sets_4 (by decide) ?_
  refine lv_bipush (v := (nI 7)) S.1 S.2.1 dX11_sets_7 (by decide) ?_
  refine lv_iload_n S.1 S.2.1 dX11_sets_9 rfl (lv_at hl 1 rfl) ?_
  refine lv_imul S.1 S.2.1 dX11_sets_10 ?_
  refine lv_iadd S.1 S.2.1 dX11_sets_11 ?_
  refine lv_iload_n S.1 S.2.1 dX11_sets_12 rfl (lv_at hl 2 rfl) ?_
  refine lv_iadd S.1 S.2.1 dX11_sets_13 ?_
  refine lv_iload_n S.1 S.2.1 dX11_sets_14 rfl (lv_at hl 3 rfl) ?_
  obtain ⟨a2, e3, h⟩ := h
  refine mz_o2 e3 ?_
  obtain ⟨k4, h⟩ := h
  obtain ⟨b5, h⟩ := h
  refine mz_iast S hG hM hS dX11_sets_15 k4 b5 (fun H locs hM hS hz9 => ?_)
  exact mz_vret S hr hlk hM hS (Nat.le_of_ble_eq_true rfl) (Nat.le_of_ble_eq_true rfl) dX11_sets_16 ⟨rfl, h⟩
set_option maxRecDepth 100000 in
set_option maxHeartbeats 4000000 in
theorem c_X11_placeOf {l : Launch} {G : mgT} {μ : mmT} {o : Nat} {x1 : Int32} {Q : Int32 → Prop} (h : w_X11_placeOf G μ o x1 Q) : MC G l yX11_placeOf cX11_placeOf 3 (some .int) { frames := 1, cells := 0, slots := 0, locals := 22 } [.ref o, .int x1] μ (pI (fun r μ' => μ' = μ ∧ Q r)) := by
  refine mz_MC (by decide +kernel) (Nat.le_of_ble_eq_true rfl) (fun p e s m args below meth c S hG hr hlk hnm => ?_)
  have hB2 : ∀ (n : Nat) (x1 : Int32) (x2 : Int32) (H : Heap) (locs : List Loc) (ls : Array Slot), Mm G μ H → va_S (Ah G) s.heap H locs → lv_has ls 3 [(0, .ref o), (1, .int x1), (2, .int x2)] → w_X11_placeOf_l2 G μ o Q  n x1 x2 → W p l e { frames := 1, cells := 0, slots := 0, locals := 22 } s m args below meth c H locs 0 0 (MQ below (mQ G (pI (fun r μ' => μ' = μ ∧ Q r))) args s 0 0 (Ah G)) (F0 m 2 ls []) := by
    intro  n
    induction n with
    | zero =>
      intro x1 x2 H locs ls hM hS hl h
      exact False.elim h
    | succ n ih =>
      intro x1 x2 H locs ls hM hS hl h
      have h : w_X11_placeOf_b2 G μ o Q  (w_X11_placeOf_l2 G μ o Q  n) x1 x2 := h
      unfold w_X11_placeOf_b2 at h
      refine lv_iload_n S.1 S.2.1 dX11_placeOf_2 rfl (lv_at hl 2 rfl) ?_
      refine lv_aload_n S.1 S.2.1 dX11_placeOf_3 rfl (lv_at hl 0 rfl) ?_
      obtain ⟨k1, h⟩ := h
      refine mz_getr S hG hM cf_10 fd_321 tw_1483 dX11_placeOf_4 k1 ?_
      refine lv_iconst (v := (nI 2)) S.1 S.2.1 dX11_placeOf_7 (by decide) ?_
      obtain ⟨a2, e3, h⟩ := h
      refine mz_o1 e3 ?_
      obtain ⟨k4, h⟩ := h
      obtain ⟨b5, h⟩ := h
      refine mz_iald S hG hM dX11_placeOf_8 k4 b5 ?_
      refine lv_icmp_ge (tgt := 30) S.1 S.2.1 dX11_placeOf_9 (by decide) (fun c6 => ?_) (fun c6 => ?_)
      · have h := h.1 c6
        refine lv_iconst (v := (-1)) S.1 S.2.1 dX11_placeOf_30 (by decide) ?_
        exact mz_iret S hr hlk hM hS rfl (Nat.le_of_ble_eq_true rfl) (Nat.le_of_ble_eq_true rfl) dX11_placeOf_31 ⟨_, rfl, rfl, h⟩
      · have h := h.2 c6
        refine lv_aload_n S.1 S.2.1 dX11_placeOf_12 rfl (lv_at hl 0 rfl) ?_
        refine lv_iload_n S.1 S.2.1 dX11_placeOf_13 rfl (lv_at hl 2 rfl) ?_
        refine lv_iconst (v := (nI 0)) S.1 S.2.1 dX11_placeOf_14 (by decide) ?_
        refine mz_V S hG hM hS cf_10 k1 (As := [.int x2, .int (nI 0)]) (rest := []) (c_X11_of h) yf_X11_of tw_1622 tw_1624 ts_36 ⟨Nat.le_of_ble_eq_true rfl, Nat.le_of_ble_eq_true rfl⟩ ⟨(Nat.le_of_ble_eq_true rfl), (Nat.le_of_ble_eq_true rfl)⟩ rfl hl.1 rfl (Nat.le_of_ble_eq_true rfl) dX11_placeOf_15 (fun v9 μ9 H locs hp hM hS => ?_)
        obtain ⟨u7, rfl, e9, h⟩ := hp
        rw [e9] at hM
        refine W.cs (cells' := 0) (slots' := 0) rfl rfl ?_
        refine lv_iload_n S.1 S.2.1 dX11_placeOf_18 rfl (lv_at hl 1 rfl) ?_
        refine lv_icmp_ne (tgt := 24) S.1 S.2.1 dX11_placeOf_19 (by decide) (fun c8 => ?_) (fun c8 => ?_)
        · have h := h.1 c8
          refine lv_iinc (v := (x2 + nI 1)) (lv' := [(2, .int (x2 + nI 1)), (0, .ref o), (1, .int x1)]) S.1 S.2.1 dX11_placeOf_24 hl (k := 2) rfl rfl (by decide) rfl (fun ls hl => ?_)
          refine lv_goto (tgt := 2) S.1 S.2.1 dX11_placeOf_27 (by decide) ?_
          exact ih x1 (x2 + nI 1) H locs ls hM hS (lv_sub hl [1, 2, 0] rfl) h
        · have h := h.2 c8
          refine lv_iload_n S.1 S.2.1 dX11_placeOf_22 rfl (lv_at hl 2 rfl) ?_
          exact mz_iret S hr hlk hM hS rfl (Nat.le_of_ble_eq_true rfl) (Nat.le_of_ble_eq_true rfl) dX11_placeOf_23 ⟨_, rfl, rfl, h⟩
  intro H locs ls hM hS hl
  have hl : lv_has ls 3 [(0, .ref o), (1, .int x1)] := hl
  unfold w_X11_placeOf at h
  refine lv_iconst (v := (nI 0)) S.1 S.2.1 dX11_placeOf_0 (by decide) ?_
  refine lv_istore_n (lv' := [(2, .int (nI 0)), (0, .ref o), (1, .int x1)]) S.1 S.2.1 dX11_placeOf_1 rfl hl (by decide) rfl (fun ls hl => ?_)
  obtain ⟨n9, h⟩ := h
  exact hB2  n9 x1 (nI 0) H locs ls hM hS (lv_sub hl [1, 2, 0] rfl) h
set_option maxRecDepth 100000 in
set_option maxHeartbeats 4000000 in
theorem c_X11_ceases {l : Launch} {G : mgT} {μ : mmT} {o : Nat} {x1 : Int32} {Q : mmT → Prop} (h : w_X11_ceases G μ o x1 Q) : MC G l yX11_ceases cX11_ceases 4 none { frames := 0, cells := 0, slots := 0, locals := 0 } [.ref o, .int x1] μ (pV Q) := by
  refine mz_MC (by decide +kernel) (Nat.le_of_ble_eq_true rfl) (fun p e s m args below meth c S hG hr hlk hnm => ?_)
  have hB53 : ∀ (n : Nat) (x2 : Int32) (x3 : Int32) (μ : mmT) (H : Heap) (locs : List Loc) (ls : Array Slot), Mm G μ H → va_S (Ah G) s.heap H locs → lv_has ls 4 [(0, .ref o), (2, .int x2), (3, .int x3)] → w_X11_ceases_l53 G o Q  n x2 x3 μ → W p l e { frames := 0, cells := 0, slots := 0, locals := 0 } s m args below meth c H locs 0 0 (MQ below (mQ G (pV Q)) args s 0 0 (Ah G)) (F0 m 53 ls []) := by
    intro  n
    induction n with
    | zero =>
      intro x2 x3 μ H locs ls hM hS hl h
      exact False.elim h
    | succ n ih =>
      intro x2 x3 μ H locs ls hM hS hl h
      have h : w_X11_ceases_b53 G o Q  (w_X11_ceases_l53 G o Q  n) x2 x3 μ := h
      unfold w_X11_ceases_b53 at h
      refine lv_iload_n S.1 S.2.1 dX11_ceases_53 rfl (lv_at hl 2 rfl) ?_
      refine lv_bipush (v := (nI 7)) S.1 S.2.1 dX11_ceases_54 (by decide) ?_
      refine lv_icmp_ge (tgt := 81) S.1 S.2.1 dX11_ceases_56 (by decide) (fun c7 => ?_) (fun c7 => ?_)
      · have h := h.1 c7
        refine lv_aload_n S.1 S.2.1 dX11_ceases_81 rfl (lv_at hl 0 rfl) ?_
        obtain ⟨k8, h⟩ := h
        refine mz_getr S hG hM cf_10 fd_321 tw_1483 dX11_ceases_82 k8 ?_
        refine lv_iconst (v := (nI 2)) S.1 S.2.1 dX11_ceases_85 (by decide) ?_
        refine lv_iload_n S.1 S.2.1 dX11_ceases_86 rfl (lv_at hl 1 rfl) ?_
        obtain ⟨a9, e10, h⟩ := h
        refine mz_o2 e10 ?_
        obtain ⟨k11, h⟩ := h
        obtain ⟨b12, h⟩ := h
        refine mz_iast S hG hM hS dX11_ceases_87 k11 b12 (fun H locs hM hS hz9 => ?_)
        exact mz_vret S hr hlk hM hS (Nat.le_of_ble_eq_true rfl) (Nat.le_of_ble_eq_true rfl) dX11_ceases_88 ⟨rfl, h⟩
      · have h := h.2 c7
        refine lv_aload_n S.1 S.2.1 dX11_ceases_59 rfl (lv_at hl 0 rfl) ?_
        obtain ⟨k13, h⟩ := h
        refine mz_getr S hG hM cf_10 fd_321 tw_1483 dX11_ceases_60 k13 ?_
        refine lv_sipush (v := (nI 146)) S.1 S.2.1 dX11_ceases_63 (by decide) ?_
        refine lv_bipush (v := (nI 7)) S.1 S.2.1 dX11_ceases_66 (by decide) ?_
        refine lv_iload_n S.1 S.2.1 dX11_ceases_68 rfl (lv_at hl 1 rfl) ?_
        refine lv_imul S.1 S.2.1 dX11_ceases_69 ?_
        refine lv_iadd S.1 S.2.1 dX11_ceases_70 ?_
        refine lv_iload_n S.1 S.2.1 dX11_ceases_71 rfl (lv_at hl 2 rfl) ?_
        refine lv_iadd S.1 S.2.1 dX11_ceases_72 ?_
        refine lv_iconst (v := (nI 0)) S.1 S.2.1 dX11_ceases_73 (by decide) ?_
        obtain ⟨a14, e15, h⟩ := h
        refine mz_o2 e15 ?_
        obtain ⟨k16, h⟩ := h
        obtain ⟨b17, h⟩ := h
        refine mz_iast S hG hM hS dX11_ceases_74 k16 b17 (fun H locs hM hS hz9 => ?_)
        refine lv_iinc (v := (x3 + nI 1)) (lv' := [(3, .int (x3 + nI 1)), (0, .ref o), (2, .int x2)]) S.1 S.2.1 dX11_ceases_75 hl (k := 2) rfl rfl (by decide) rfl (fun ls hl => ?_)
        refine lv_goto (tgt := 53) S.1 S.2.1 dX11_ceases_78 (by decide) ?_
        exact ih x2 (x3 + nI 1) (sA μ a14 (((nI 146) + ((nI 7) * x2)) + x3).toNatClampNeg (nI 0)) H locs ls hM hS (lv_sub hl [1, 2, 0] rfl) h
  have hB14 : ∀ (n : Nat) (x2 : Int32) (x3 : Int32) (μ : mmT) (H : Heap) (locs : List Loc) (ls : Array Slot), Mm G μ H → va_S (Ah G) s.heap H locs → lv_has ls 4 [(0, .ref o), (2, .int x2), (3, .int x3)] → w_X11_ceases_l14 G o Q  n x2 x3 μ → W p l e { frames := 0, cells := 0, slots := 0, locals := 0 } s m args below meth c H locs 0 0 (MQ below (mQ G (pV Q)) args s 0 0 (Ah G)) (F0 m 14 ls []) := by
    intro  n
    induction n with
    | zero =>
      intro x2 x3 μ H locs ls hM hS hl h
      exact False.elim h
    | succ n ih =>
      intro x2 x3 μ H locs ls hM hS hl h
      have h : w_X11_ceases_b14 G o Q  (w_X11_ceases_l14 G o Q  n) x2 x3 μ := h
      unfold w_X11_ceases_b14 at h
      refine lv_iload_n S.1 S.2.1 dX11_ceases_14 rfl (lv_at hl 2 rfl) ?_
      refine lv_bipush (v := (nI 7)) S.1 S.2.1 dX11_ceases_15 (by decide) ?_
      refine lv_iload_n S.1 S.2.1 dX11_ceases_17 rfl (lv_at hl 1 rfl) ?_
      refine lv_imul S.1 S.2.1 dX11_ceases_18 ?_
      refine lv_icmp_ge (tgt := 51) S.1 S.2.1 dX11_ceases_19 (by decide) (fun c6 => ?_) (fun c6 => ?_)
      · have h := h.1 c6
        refine lv_iconst (v := (nI 0)) S.1 S.2.1 dX11_ceases_51 (by decide) ?_
        refine lv_istore_n (lv' := [(3, .int (nI 0)), (0, .ref o), (2, .int x2)]) S.1 S.2.1 dX11_ceases_52 rfl hl (by decide) rfl (fun ls hl => ?_)
        obtain ⟨n9, h⟩ := h
        exact hB53  n9 x2 (nI 0) μ H locs ls hM hS (lv_sub hl [1, 2, 0] rfl) h
      · have h := h.2 c6
        refine lv_aload_n S.1 S.2.1 dX11_ceases_22 rfl (lv_at hl 0 rfl) ?_
        obtain ⟨k18, h⟩ := h
        refine mz_getr S hG hM cf_10 fd_321 tw_1483 dX11_ceases_23 k18 ?_
        refine lv_sipush (v := (nI 146)) S.1 S.2.1 dX11_ceases_26 (by decide) ?_
        refine lv_iload_n S.1 S.2.1 dX11_ceases_29 rfl (lv_at hl 2 rfl) ?_
        refine lv_iadd S.1 S.2.1 dX11_ceases_30 ?_
        refine lv_aload_n S.1 S.2.1 dX11_ceases_31 rfl (lv_at hl 0 rfl) ?_
        refine mz_getr S hG hM cf_10 fd_321 tw_1483 dX11_ceases_32 k18 ?_
        refine lv_sipush (v := (nI 146)) S.1 S.2.1 dX11_ceases_35 (by decide) ?_
        refine lv_iload_n S.1 S.2.1 dX11_ceases_38 rfl (lv_at hl 2 rfl) ?_
        refine lv_iadd S.1 S.2.1 dX11_ceases_39 ?_
        refine lv_bipush (v := (nI 7)) S.1 S.2.1 dX11_ceases_40 (by decide) ?_
        refine lv_iadd S.1 S.2.1 dX11_ceases_42 ?_
        obtain ⟨a19, e20, h⟩ := h
        refine mz_o1 e20 ?_
        obtain ⟨k21, h⟩ := h
        obtain ⟨b22, h⟩ := h
        refine mz_iald S hG hM dX11_ceases_43 k21 b22 ?_
        refine mz_o2 e20 ?_
        obtain ⟨b23, h⟩ := h
        refine mz_iast S hG hM hS dX11_ceases_44 k21 b23 (fun H locs hM hS hz9 => ?_)
        refine lv_iinc (v := (x3 + nI 1)) (lv' := [(3, .int (x3 + nI 1)), (0, .ref o), (2, .int x2)]) S.1 S.2.1 dX11_ceases_45 hl (k := 2) rfl rfl (by decide) rfl (fun ls hl => ?_)
        refine lv_goto (tgt := 14) S.1 S.2.1 dX11_ceases_48 (by decide) ?_
        exact ih x2 (x3 + nI 1) (sA μ a19 ((nI 146) + x3).toNatClampNeg (mA μ a19 (((nI 146) + x3) + (nI 7)).toNatClampNeg)) H locs ls hM hS (lv_sub hl [1, 2, 0] rfl) h
  intro H locs ls hM hS hl
  have hl : lv_has ls 4 [(0, .ref o), (1, .int x1)] := hl
  unfold w_X11_ceases at h
  refine lv_aload_n S.1 S.2.1 dX11_ceases_0 rfl (lv_at hl 0 rfl) ?_
  obtain ⟨k1, h⟩ := h
  refine mz_getr S hG hM cf_10 fd_321 tw_1483 dX11_ceases_1 k1 ?_
  refine lv_iconst (v := (nI 2)) S.1 S.2.1 dX11_ceases_4 (by decide) ?_
  obtain ⟨a2, e3, h⟩ := h
  refine mz_o1 e3 ?_
  obtain ⟨k4, h⟩ := h
  obtain ⟨b5, h⟩ := h
  refine mz_iald S hG hM dX11_ceases_5 k4 b5 ?_
  refine lv_iconst (v := (nI 1)) S.1 S.2.1 dX11_ceases_6 (by decide) ?_
  refine lv_isub S.1 S.2.1 dX11_ceases_7 ?_
  refine lv_istore_n (lv' := [(2, .int ((mA μ a2 (nI 2).toNatClampNeg) - (nI 1))), (0, .ref o), (1, .int x1)]) S.1 S.2.1 dX11_ceases_8 rfl hl (by decide) rfl (fun ls hl => ?_)
  refine lv_bipush (v := (nI 7)) S.1 S.2.1 dX11_ceases_9 (by decide) ?_
  refine lv_iload_n S.1 S.2.1 dX11_ceases_11 rfl (lv_at hl 2 rfl) ?_
  refine lv_imul S.1 S.2.1 dX11_ceases_12 ?_
  refine lv_istore_n (lv' := [(3, .int ((nI 7) * x1)), (2, .int ((mA μ a2 (nI 2).toNatClampNeg) - (nI 1))), (0, .ref o), (1, .int x1)]) S.1 S.2.1 dX11_ceases_13 rfl hl (by decide) rfl (fun ls hl => ?_)
  obtain ⟨n9, h⟩ := h
  exact hB14  n9 ((mA μ a2 (nI 2).toNatClampNeg) - (nI 1)) ((nI 7) * x1) μ H locs ls hM hS (lv_sub hl [2, 1, 0] rfl) h
set_option maxRecDepth 100000 in
set_option maxHeartbeats 4000000 in
theorem c_X11_knows {l : Launch} {G : mgT} {μ : mmT} {o : Nat} {x1 : Int32} {x2 : Int32} {Q : Int32 → Prop} (h : w_X11_knows G μ o x1 x2 Q) : MC G l yX11_knows cX11_knows 4 (some .boolean) { frames := 1, cells := 0, slots := 0, locals := 22 } [.ref o, .int x1, .int x2] μ (pI (fun r μ' => μ' = μ ∧ Q r)) := by
  refine mz_MC (by decide +kernel) (Nat.le_of_ble_eq_true rfl) (fun p e s m args below meth c S hG hr hlk hnm => ?_)
  have hB2 : ∀ (n : Nat) (x1 : Int32) (x2 : Int32) (x3 : Int32) (H : Heap) (locs : List Loc) (ls : Array Slot), Mm G μ H → va_S (Ah G) s.heap H locs → lv_has ls 4 [(0, .ref o), (1, .int x1), (2, .int x2), (3, .int x3)] → w_X11_knows_l2 G μ o Q  n x1 x2 x3 → W p l e { frames := 1, cells := 0, slots := 0, locals := 22 } s m args below meth c H locs 0 0 (MQ below (mQ G (pI (fun r μ' => μ' = μ ∧ Q r))) args s 0 0 (Ah G)) (F0 m 2 ls []) := by
    intro  n
    induction n with
    | zero =>
      intro x1 x2 x3 H locs ls hM hS hl h
      exact False.elim h
    | succ n ih =>
      intro x1 x2 x3 H locs ls hM hS hl h
      have h : w_X11_knows_b2 G μ o Q  (w_X11_knows_l2 G μ o Q  n) x1 x2 x3 := h
      unfold w_X11_knows_b2 at h
      refine lv_iload_n S.1 S.2.1 dX11_knows_2 rfl (lv_at hl 3 rfl) ?_
      refine lv_aload_n S.1 S.2.1 dX11_knows_3 rfl (lv_at hl 0 rfl) ?_
      refine lv_iload_n S.1 S.2.1 dX11_knows_4 rfl (lv_at hl 1 rfl) ?_
      refine lv_bipush (v := (nI 11)) S.1 S.2.1 dX11_knows_5 (by decide) ?_
      obtain ⟨k1, h⟩ := h
      refine mz_V S hG hM hS cf_10 k1 (As := [.int x1, .int (nI 11)]) (rest := [.int x3]) (c_X11_nest h) yf_X11_nest tw_1614 tw_1616 ts_34 ⟨Nat.le_of_ble_eq_true rfl, Nat.le_of_ble_eq_true rfl⟩ ⟨(Nat.le_of_ble_eq_true rfl), (Nat.le_of_ble_eq_true rfl)⟩ rfl hl.1 rfl (Nat.le_of_ble_eq_true rfl) dX11_knows_7 (fun v9 μ9 H locs hp hM hS => ?_)
      obtain ⟨u2, rfl, e9, h⟩ := hp
      rw [e9] at hM
      refine W.cs (cells' := 0) (slots' := 0) rfl rfl ?_
      refine lv_icmp_ge (tgt := 34) S.1 S.2.1 dX11_knows_10 (by decide) (fun c3 => ?_) (fun c3 => ?_)
      · have h := h.1 c3
        refine lv_iconst (v := (nI 0)) S.1 S.2.1 dX11_knows_34 (by decide) ?_
        exact mz_iret S hr hlk hM hS rfl (Nat.le_of_ble_eq_true rfl) (Nat.le_of_ble_eq_true rfl) dX11_knows_35 ⟨_, rfl, rfl, h⟩
      · have h := h.2 c3
        refine lv_aload_n S.1 S.2.1 dX11_knows_13 rfl (lv_at hl 0 rfl) ?_
        refine lv_iload_n S.1 S.2.1 dX11_knows_14 rfl (lv_at hl 1 rfl) ?_
        refine lv_bipush (v := (nI 12)) S.1 S.2.1 dX11_knows_15 (by decide) ?_
        refine lv_iload_n S.1 S.2.1 dX11_knows_17 rfl (lv_at hl 3 rfl) ?_
        refine lv_iadd S.1 S.2.1 dX11_knows_18 ?_
        refine mz_V S hG hM hS cf_10 k1 (As := [.int x1, .int ((nI 12) + x3)]) (rest := []) (c_X11_nest h) yf_X11_nest tw_1614 tw_1616 ts_34 ⟨Nat.le_of_ble_eq_true rfl, Nat.le_of_ble_eq_true rfl⟩ ⟨(Nat.le_of_ble_eq_true rfl), (Nat.le_of_ble_eq_true rfl)⟩ rfl hl.1 rfl (Nat.le_of_ble_eq_true rfl) dX11_knows_19 (fun v9 μ9 H locs hp hM hS => ?_)
        obtain ⟨u4, rfl, e9, h⟩ := hp
        rw [e9] at hM
        refine W.cs (cells' := 0) (slots' := 0) rfl rfl ?_
        refine lv_iload_n S.1 S.2.1 dX11_knows_22 rfl (lv_at hl 2 rfl) ?_
        refine lv_icmp_ne (tgt := 28) S.1 S.2.1 dX11_knows_23 (by decide) (fun c5 => ?_) (fun c5 => ?_)
        · have h := h.1 c5
          refine lv_iinc (v := (x3 + nI 1)) (lv' := [(3, .int (x3 + nI 1)), (0, .ref o), (1, .int x1), (2, .int x2)]) S.1 S.2.1 dX11_knows_28 hl (k := 3) rfl rfl (by decide) rfl (fun ls hl => ?_)
          refine lv_goto (tgt := 2) S.1 S.2.1 dX11_knows_31 (by decide) ?_
          exact ih x1 x2 (x3 + nI 1) H locs ls hM hS (lv_sub hl [1, 2, 3, 0] rfl) h
        · have h := h.2 c5
          refine lv_iconst (v := (nI 1)) S.1 S.2.1 dX11_knows_26 (by decide) ?_
          exact mz_iret S hr hlk hM hS rfl (Nat.le_of_ble_eq_true rfl) (Nat.le_of_ble_eq_true rfl) dX11_knows_27 ⟨_, rfl, rfl, h⟩
  intro H locs ls hM hS hl
  have hl : lv_has ls 4 [(0, .ref o), (1, .int x1), (2, .int x2)] := hl
  unfold w_X11_knows at h
  refine lv_iconst (v := (nI 0)) S.1 S.2.1 dX11_knows_0 (by decide) ?_
  refine lv_istore_n (lv' := [(3, .int (nI 0)), (0, .ref o), (1, .int x1), (2, .int x2)]) S.1 S.2.1 dX11_knows_1 rfl hl (by decide) rfl (fun ls hl => ?_)
  obtain ⟨n9, h⟩ := h
  exact hB2  n9 x1 x2 (nI 0) H locs ls hM hS (lv_sub hl [1, 2, 3, 0] rfl) h
set_option maxRecDepth 100000 in
set_option maxHeartbeats 4000000 in
theorem c_X11_learns {l : Launch} {G : mgT} {μ : mmT} {o : Nat} {x1 : Int32} {x2 : Int32} {Q : mmT → Prop} (h : w_X11_learns G μ o x1 x2 Q) : MC G l yX11_learns cX11_learns 5 none { frames := 1, cells := 0, slots := 0, locals := 23 } [.ref o, .int x1, .int x2] μ (pV Q) := by
  refine mz_MC (by decide +kernel) (Nat.le_of_ble_eq_true rfl) (fun p e s m args below meth c S hG hr hlk hnm => ?_)
  have hB55 : ∀ (x1 : Int32) (x2 : Int32) (x3 : Int32) (μ : mmT) (H : Heap) (locs : List Loc) (ls : Array Slot), Mm G μ H → va_S (Ah G) s.heap H locs → lv_has ls 5 [(0, .ref o), (1, .int x1), (2, .int x2), (3, .int x3)] → w_X11_learns_b55 G o Q  x1 x2 x3 μ → W p l e { frames := 1, cells := 0, slots := 0, locals := 23 } s m args below meth c H locs 0 0 (MQ below (mQ G (pV Q)) args s 0 0 (Ah G)) (F0 m 55 ls []) := by
    intro  x1 x2 x3 μ H locs ls hM hS hl h
    unfold w_X11_learns_b55 at h
    refine lv_aload_n S.1 S.2.1 dX11_learns_55 rfl (lv_at hl 0 rfl) ?_
    refine lv_iload_n S.1 S.2.1 dX11_learns_56 rfl (lv_at hl 1 rfl) ?_
    refine lv_bipush (v := (nI 12)) S.1 S.2.1 dX11_learns_57 (by decide) ?_
    refine lv_iload_n S.1 S.2.1 dX11_learns_59 rfl (lv_at hl 3 rfl) ?_
    refine lv_iadd S.1 S.2.1 dX11_learns_60 ?_
    refine lv_iload_n S.1 S.2.1 dX11_learns_61 rfl (lv_at hl 2 rfl) ?_
    obtain ⟨k4, h⟩ := h
    refine mz_V S hG hM hS cf_10 k4 (As := [.int x1, .int ((nI 12) + x3), .int x2]) (rest := []) (c_X11_setsNest h) yf_X11_setsNest tw_1562 tw_1564 ts_24 ⟨Nat.le_of_ble_eq_true rfl, Nat.le_of_ble_eq_true rfl⟩ ⟨(Nat.le_of_ble_eq_true rfl), (Nat.le_of_ble_eq_true rfl)⟩ rfl hl.1 rfl (Nat.le_of_ble_eq_true rfl) dX11_learns_62 (fun v9 μ5 H locs hp hM hS => ?_)
    obtain ⟨rfl, h⟩ := hp
    refine W.cs (cells' := 0) (slots' := 0) rfl rfl ?_
    refine lv_aload_n S.1 S.2.1 dX11_learns_65 rfl (lv_at hl 0 rfl) ?_
    refine lv_iload_n S.1 S.2.1 dX11_learns_66 rfl (lv_at hl 1 rfl) ?_
    refine lv_bipush (v := (nI 11)) S.1 S.2.1 dX11_learns_67 (by decide) ?_
    refine lv_iload_n S.1 S.2.1 dX11_learns_69 rfl (lv_at hl 3 rfl) ?_
    refine lv_iconst (v := (nI 1)) S.1 S.2.1 dX11_learns_70 (by decide) ?_
    refine lv_iadd S.1 S.2.1 dX11_learns_71 ?_
    obtain ⟨k6, h⟩ := h
    refine mz_V S hG hM hS cf_10 k6 (As := [.int x1, .int (nI 11), .int (x3 + (nI 1))]) (rest := []) (c_X11_setsNest h) yf_X11_setsNest tw_1562 tw_1564 ts_24 ⟨Nat.le_of_ble_eq_true rfl, Nat.le_of_ble_eq_true rfl⟩ ⟨(Nat.le_of_ble_eq_true rfl), (Nat.le_of_ble_eq_true rfl)⟩ rfl hl.1 rfl (Nat.le_of_ble_eq_true rfl) dX11_learns_72 (fun v9 μ7 H locs hp hM hS => ?_)
    obtain ⟨rfl, h⟩ := hp
    refine W.cs (cells' := 0) (slots' := 0) rfl rfl ?_
    exact mz_vret S hr hlk hM hS (Nat.le_of_ble_eq_true rfl) (Nat.le_of_ble_eq_true rfl) dX11_learns_75 ⟨rfl, h⟩
  have hB17 : ∀ (n : Nat) (x1 : Int32) (x2 : Int32) (x4 : Int32) (μ : mmT) (H : Heap) (locs : List Loc) (ls : Array Slot), Mm G μ H → va_S (Ah G) s.heap H locs → lv_has ls 5 [(0, .ref o), (1, .int x1), (2, .int x2), (4, .int x4)] → w_X11_learns_l17 G o Q  n x1 x2 x4 μ → W p l e { frames := 1, cells := 0, slots := 0, locals := 23 } s m args below meth c H locs 0 0 (MQ below (mQ G (pV Q)) args s 0 0 (Ah G)) (F0 m 17 ls []) := by
    intro  n
    induction n with
    | zero =>
      intro x1 x2 x4 μ H locs ls hM hS hl h
      exact False.elim h
    | succ n ih =>
      intro x1 x2 x4 μ H locs ls hM hS hl h
      have h : w_X11_learns_b17 G o Q  (w_X11_learns_l17 G o Q  n) x1 x2 x4 μ := h
      unfold w_X11_learns_b17 at h
      refine lv_iload S.1 S.2.1 dX11_learns_17 (lv_at hl 3 rfl) ?_
      refine lv_bipush (v := (nI 7)) S.1 S.2.1 dX11_learns_19 (by decide) ?_
      refine lv_icmp_ge (tgt := 52) S.1 S.2.1 dX11_learns_21 (by decide) (fun c8 => ?_) (fun c8 => ?_)
      · have h := h.1 c8
        refine lv_bipush (v := (nI 7)) S.1 S.2.1 dX11_learns_52 (by decide) ?_
        refine lv_istore_n (lv' := [(3, .int (nI 7)), (0, .ref o), (1, .int x1), (2, .int x2), (4, .int x4)]) S.1 S.2.1 dX11_learns_54 rfl hl (by decide) rfl (fun ls hl => ?_)
        exact hB55  x1 x2 (nI 7) μ H locs ls hM hS (lv_sub hl [1, 2, 3, 0] rfl) h
      · have h := h.2 c8
        refine lv_aload_n S.1 S.2.1 dX11_learns_24 rfl (lv_at hl 0 rfl) ?_
        refine lv_iload_n S.1 S.2.1 dX11_learns_25 rfl (lv_at hl 1 rfl) ?_
        refine lv_bipush (v := (nI 12)) S.1 S.2.1 dX11_learns_26 (by decide) ?_
        refine lv_iload S.1 S.2.1 dX11_learns_28 (lv_at hl 3 rfl) ?_
        refine lv_iadd S.1 S.2.1 dX11_learns_30 ?_
        refine lv_aload_n S.1 S.2.1 dX11_learns_31 rfl (lv_at hl 0 rfl) ?_
        refine lv_iload_n S.1 S.2.1 dX11_learns_32 rfl (lv_at hl 1 rfl) ?_
        refine lv_bipush (v := (nI 12)) S.1 S.2.1 dX11_learns_33 (by decide) ?_
        refine lv_iload S.1 S.2.1 dX11_learns_35 (lv_at hl 3 rfl) ?_
        refine lv_iadd S.1 S.2.1 dX11_learns_37 ?_
        refine lv_iconst (v := (nI 1)) S.1 S.2.1 dX11_learns_38 (by decide) ?_
        refine lv_iadd S.1 S.2.1 dX11_learns_39 ?_
        obtain ⟨k9, h⟩ := h
        refine mz_V S hG hM hS cf_10 k9 (As := [.int x1, .int (((nI 12) + x4) + (nI 1))]) (rest := [.int ((nI 12) + x4), .int x1, .ref o]) (c_X11_nest h) yf_X11_nest tw_1614 tw_1616 ts_34 ⟨Nat.le_of_ble_eq_true rfl, Nat.le_of_ble_eq_true rfl⟩ ⟨(Nat.le_of_ble_eq_true rfl), (Nat.le_of_ble_eq_true rfl)⟩ rfl hl.1 rfl (Nat.le_of_ble_eq_true rfl) dX11_learns_40 (fun v9 μ9 H locs hp hM hS => ?_)
        obtain ⟨u10, rfl, e9, h⟩ := hp
        rw [e9] at hM
        refine W.cs (cells' := 0) (slots' := 0) rfl rfl ?_
        refine mz_V S hG hM hS cf_10 k9 (As := [.int x1, .int ((nI 12) + x4), .int u10]) (rest := []) (c_X11_setsNest h) yf_X11_setsNest tw_1562 tw_1564 ts_24 ⟨Nat.le_of_ble_eq_true rfl, Nat.le_of_ble_eq_true rfl⟩ ⟨(Nat.le_of_ble_eq_true rfl), (Nat.le_of_ble_eq_true rfl)⟩ rfl hl.1 rfl (Nat.le_of_ble_eq_true rfl) dX11_learns_43 (fun v9 μ11 H locs hp hM hS => ?_)
        obtain ⟨rfl, h⟩ := hp
        refine W.cs (cells' := 0) (slots' := 0) rfl rfl ?_
        refine lv_iinc (v := (x4 + nI 1)) (lv' := [(4, .int (x4 + nI 1)), (0, .ref o), (1, .int x1), (2, .int x2)]) S.1 S.2.1 dX11_learns_46 hl (k := 3) rfl rfl (by decide) rfl (fun ls hl => ?_)
        refine lv_goto (tgt := 17) S.1 S.2.1 dX11_learns_49 (by decide) ?_
        exact ih x1 x2 (x4 + nI 1) μ11 H locs ls hM hS (lv_sub hl [1, 2, 3, 0] rfl) h
  intro H locs ls hM hS hl
  have hl : lv_has ls 5 [(0, .ref o), (1, .int x1), (2, .int x2)] := hl
  unfold w_X11_learns at h
  refine lv_aload_n S.1 S.2.1 dX11_learns_0 rfl (lv_at hl 0 rfl) ?_
  refine lv_iload_n S.1 S.2.1 dX11_learns_1 rfl (lv_at hl 1 rfl) ?_
  refine lv_bipush (v := (nI 11)) S.1 S.2.1 dX11_learns_2 (by decide) ?_
  obtain ⟨k1, h⟩ := h
  refine mz_V S hG hM hS cf_10 k1 (As := [.int x1, .int (nI 11)]) (rest := []) (c_X11_nest h) yf_X11_nest tw_1614 tw_1616 ts_34 ⟨Nat.le_of_ble_eq_true rfl, Nat.le_of_ble_eq_true rfl⟩ ⟨(Nat.le_of_ble_eq_true rfl), (Nat.le_of_ble_eq_true rfl)⟩ rfl hl.1 rfl (Nat.le_of_ble_eq_true rfl) dX11_learns_4 (fun v9 μ9 H locs hp hM hS => ?_)
  obtain ⟨u2, rfl, e9, h⟩ := hp
  rw [e9] at hM
  refine W.cs (cells' := 0) (slots' := 0) rfl rfl ?_
  refine lv_istore_n (lv' := [(3, .int u2), (0, .ref o), (1, .int x1), (2, .int x2)]) S.1 S.2.1 dX11_learns_7 rfl hl (by decide) rfl (fun ls hl => ?_)
  refine lv_iload_n S.1 S.2.1 dX11_learns_8 rfl (lv_at hl 0 rfl) ?_
  refine lv_bipush (v := (nI 8)) S.1 S.2.1 dX11_learns_9 (by decide) ?_
  refine lv_icmp_ne (tgt := 55) S.1 S.2.1 dX11_learns_11 (by decide) (fun c3 => ?_) (fun c3 => ?_)
  · have h := h.1 c3
    exact hB55  x1 x2 u2 μ H locs ls hM hS (lv_sub hl [1, 2, 3, 0] rfl) h
  · have h := h.2 c3
    refine lv_iconst (v := (nI 0)) S.1 S.2.1 dX11_learns_14 (by decide) ?_
    refine lv_istore (lv' := [(4, .int (nI 0)), (3, .int u2), (0, .ref o), (1, .int x1), (2, .int x2)]) S.1 S.2.1 dX11_learns_15 hl (by decide) rfl (fun ls hl => ?_)
    obtain ⟨n9, h⟩ := h
    exact hB17  n9 x1 x2 (nI 0) μ H locs ls hM hS (lv_sub hl [2, 3, 4, 0] rfl) h
set_option maxRecDepth 100000 in
set_option maxHeartbeats 4000000 in
theorem c_X11_isLost {l : Launch} {G : mgT} {μ : mmT} {o : Nat} {x1 : Int32} {x2 : Int32} {Q : Int32 → Prop} (h : w_X11_isLost G μ o x1 x2 Q) : MC G l yX11_isLost cX11_isLost 3 (some .boolean) { frames := 1, cells := 0, slots := 0, locals := 22 } [.ref o, .int x1, .int x2] μ (pI (fun r μ' => μ' = μ ∧ Q r)) := by
  refine mz_MC (by decide +kernel) (Nat.le_of_ble_eq_true rfl) (fun p e s m args below meth c S hG hr hlk hnm => ?_)
  have hB36 : ∀ (s0 : Int32) (H : Heap) (locs : List Loc) (ls : Array Slot), Mm G μ H → va_S (Ah G) s.heap H locs → lv_has ls 3 [(0, .ref o)] → w_X11_isLost_b36 G μ o Q  s0 → W p l e { frames := 1, cells := 0, slots := 0, locals := 22 } s m args below meth c H locs 0 0 (MQ below (mQ G (pI (fun r μ' => μ' = μ ∧ Q r))) args s 0 0 (Ah G)) (F0 m 36 ls [.int s0]) := by
    intro  s0 H locs ls hM hS hl h
    unfold w_X11_isLost_b36 at h
    obtain ⟨f11, h⟩ := h
    exact mz_iret S hr hlk hM hS (mz_nZ f11) (Nat.le_of_ble_eq_true rfl) (Nat.le_of_ble_eq_true rfl) dX11_isLost_36 ⟨_, rfl, rfl, h⟩
  intro H locs ls hM hS hl
  have hl : lv_has ls 3 [(0, .ref o), (1, .int x1), (2, .int x2)] := hl
  unfold w_X11_isLost at h
  refine lv_aload_n S.1 S.2.1 dX11_isLost_0 rfl (lv_at hl 0 rfl) ?_
  refine lv_iload_n S.1 S.2.1 dX11_isLost_1 rfl (lv_at hl 1 rfl) ?_
  refine lv_iconst (v := (nI 0)) S.1 S.2.1 dX11_isLost_2 (by decide) ?_
  obtain ⟨k1, h⟩ := h
  refine mz_V S hG hM hS cf_10 k1 (As := [.int x1, .int (nI 0)]) (rest := []) (c_X11_of h) yf_X11_of tw_1622 tw_1624 ts_36 ⟨Nat.le_of_ble_eq_true rfl, Nat.le_of_ble_eq_true rfl⟩ ⟨(Nat.le_of_ble_eq_true rfl), (Nat.le_of_ble_eq_true rfl)⟩ rfl hl.1 rfl (Nat.le_of_ble_eq_true rfl) dX11_isLost_3 (fun v9 μ9 H locs hp hM hS => ?_)
  obtain ⟨u2, rfl, e9, h⟩ := hp
  rw [e9] at hM
  refine W.cs (cells' := 0) (slots' := 0) rfl rfl ?_
  refine lv_iload_n S.1 S.2.1 dX11_isLost_6 rfl (lv_at hl 2 rfl) ?_
  refine lv_iadd S.1 S.2.1 dX11_isLost_7 ?_
  refine lv_aload_n S.1 S.2.1 dX11_isLost_8 rfl (lv_at hl 0 rfl) ?_
  refine mz_getr S hG hM cf_10 fd_321 tw_1483 dX11_isLost_9 k1 ?_
  refine lv_iconst (v := (nI 5)) S.1 S.2.1 dX11_isLost_12 (by decide) ?_
  obtain ⟨a3, e4, h⟩ := h
  refine mz_o1 e4 ?_
  obtain ⟨k5, h⟩ := h
  obtain ⟨b6, h⟩ := h
  refine mz_iald S hG hM dX11_isLost_13 k5 b6 ?_
  refine lv_iadd S.1 S.2.1 dX11_isLost_14 ?_
  refine lv_iconst (v := (nI 5)) S.1 S.2.1 dX11_isLost_15 (by decide) ?_
  refine lv_irem S.1 S.2.1 dX11_isLost_16 (by decide) ?_
  refine lv_aload_n S.1 S.2.1 dX11_isLost_17 rfl (lv_at hl 0 rfl) ?_
  refine lv_aload_n S.1 S.2.1 dX11_isLost_18 rfl (lv_at hl 0 rfl) ?_
  refine lv_iload_n S.1 S.2.1 dX11_isLost_19 rfl (lv_at hl 1 rfl) ?_
  refine lv_iconst (v := (nI 1)) S.1 S.2.1 dX11_isLost_20 (by decide) ?_
  refine mz_V S hG hM hS cf_10 k1 (As := [.int x1, .int (nI 1)]) (rest := [.ref o, .int (((u2 + x2) + (mA μ a3 (nI 5).toNatClampNeg)) - ((u2 + x2) + (mA μ a3 (nI 5).toNatClampNeg)) / (nI 5) * (nI 5))]) (c_X11_of h) yf_X11_of tw_1622 tw_1624 ts_36 ⟨Nat.le_of_ble_eq_true rfl, Nat.le_of_ble_eq_true rfl⟩ ⟨(Nat.le_of_ble_eq_true rfl), (Nat.le_of_ble_eq_true rfl)⟩ rfl hl.1 rfl (Nat.le_of_ble_eq_true rfl) dX11_isLost_21 (fun v9 μ9 H locs hp hM hS => ?_)
  obtain ⟨u8, rfl, e9, h⟩ := hp
  rw [e9] at hM
  refine W.cs (cells' := 0) (slots' := 0) rfl rfl ?_
  refine lv_iconst (v := (nI 1)) S.1 S.2.1 dX11_isLost_24 (by decide) ?_
  refine mz_V S hG hM hS cf_10 k1 (As := [.int u8, .int (nI 1)]) (rest := [.int (((u2 + x2) + (mA μ a3 (nI 5).toNatClampNeg)) - ((u2 + x2) + (mA μ a3 (nI 5).toNatClampNeg)) / (nI 5) * (nI 5))]) (c_X11_nest h) yf_X11_nest tw_1614 tw_1616 ts_34 ⟨Nat.le_of_ble_eq_true rfl, Nat.le_of_ble_eq_true rfl⟩ ⟨(Nat.le_of_ble_eq_true rfl), (Nat.le_of_ble_eq_true rfl)⟩ rfl hl.1 rfl (Nat.le_of_ble_eq_true rfl) dX11_isLost_25 (fun v9 μ9 H locs hp hM hS => ?_)
  obtain ⟨u9, rfl, e9, h⟩ := hp
  rw [e9] at hM
  refine W.cs (cells' := 0) (slots' := 0) rfl rfl ?_
  refine lv_icmp_ge (tgt := 35) S.1 S.2.1 dX11_isLost_28 (by decide) (fun c10 => ?_) (fun c10 => ?_)
  · have h := h.1 c10
    refine lv_iconst (v := (nI 0)) S.1 S.2.1 dX11_isLost_35 (by decide) ?_
    exact hB36  (nI 0) H locs ls hM hS (lv_sub hl [0] rfl) h
  · have h := h.2 c10
    refine lv_iconst (v := (nI 1)) S.1 S.2.1 dX11_isLost_31 (by decide) ?_
    refine lv_goto (tgt := 36) S.1 S.2.1 dX11_isLost_32 (by decide) ?_
    exact hB36  (nI 1) H locs ls hM hS (lv_sub hl [0] rfl) h
set_option maxRecDepth 100000 in
set_option maxHeartbeats 4000000 in
theorem c_X11_arrives {l : Launch} {G : mgT} {μ : mmT} {o : Nat} {x1 : Int32} {Q : mmT → Prop} (h : w_X11_arrives G μ o x1 Q) : MC G l yX11_arrives cX11_arrives 6 none { frames := 2, cells := 0, slots := 0, locals := 47 } [.ref o, .int x1] μ (pV Q) := by
  refine mz_MC (by decide +kernel) (Nat.le_of_ble_eq_true rfl) (fun p e s m args below meth c S hG hr hlk hnm => ?_)
  have hB178 : ∀ (x2 : Int32) (x4 : Int32) (μ : mmT) (H : Heap) (locs : List Loc) (ls : Array Slot), Mm G μ H → va_S (Ah G) s.heap H locs → lv_has ls 6 [(0, .ref o), (2, .int x2), (4, .int x4)] → w_X11_arrives_b178 G o Q  x2 x4 μ → W p l e { frames := 2, cells := 0, slots := 0, locals := 47 } s m args below meth c H locs 0 0 (MQ below (mQ G (pV Q)) args s 0 0 (Ah G)) (F0 m 178 ls []) := by
    intro  x2 x4 μ H locs ls hM hS hl h
    unfold w_X11_arrives_b178 at h
    refine lv_iload S.1 S.2.1 dX11_arrives_178 (lv_at hl 2 rfl) ?_
    refine lv_iconst (v := (nI 5)) S.1 S.2.1 dX11_arrives_180 (by decide) ?_
    refine lv_icmp_ne (tgt := 201) S.1 S.2.1 dX11_arrives_181 (by decide) (fun c15 => ?_) (fun c15 => ?_)
    · have h := h.1 c15
      refine lv_aload_n S.1 S.2.1 dX11_arrives_201 rfl (lv_at hl 0 rfl) ?_
      refine lv_iload_n S.1 S.2.1 dX11_arrives_202 rfl (lv_at hl 1 rfl) ?_
      refine lv_iconst (v := (nI 4)) S.1 S.2.1 dX11_arrives_203 (by decide) ?_
      refine lv_bipush (v := (nI 110)) S.1 S.2.1 dX11_arrives_204 (by decide) ?_
      obtain ⟨k16, h⟩ := h
      refine mz_V S hG hM hS cf_10 k16 (As := [.int x2, .int (nI 4), .int (nI 110)]) (rest := []) (c_X11_sets h) yf_X11_sets tw_1602 tw_1604 ts_32 ⟨Nat.le_of_ble_eq_true rfl, Nat.le_of_ble_eq_true rfl⟩ ⟨(Nat.le_of_ble_eq_true rfl), (Nat.le_of_ble_eq_true rfl)⟩ rfl hl.1 rfl (Nat.le_of_ble_eq_true rfl) dX11_arrives_206 (fun v9 μ17 H locs hp hM hS => ?_)
      obtain ⟨rfl, h⟩ := hp
      refine W.cs (cells' := 0) (slots' := 0) rfl rfl ?_
      refine lv_aload_n S.1 S.2.1 dX11_arrives_209 rfl (lv_at hl 0 rfl) ?_
      refine lv_iload_n S.1 S.2.1 dX11_arrives_210 rfl (lv_at hl 1 rfl) ?_
      refine lv_iconst (v := (nI 5)) S.1 S.2.1 dX11_arrives_211 (by decide) ?_
      refine lv_iconst (v := (nI 1)) S.1 S.2.1 dX11_arrives_212 (by decide) ?_
      refine lv_iload S.1 S.2.1 dX11_arrives_213 (lv_at hl 2 rfl) ?_
      refine lv_ishl S.1 S.2.1 dX11_arrives_215 ?_
      obtain ⟨k18, h⟩ := h
      refine mz_V S hG hM hS cf_10 k18 (As := [.int x2, .int (nI 5), .int ((nI 1) <<< (x4 &&& 31))]) (rest := []) (c_X11_sets h) yf_X11_sets tw_1602 tw_1604 ts_32 ⟨Nat.le_of_ble_eq_true rfl, Nat.le_of_ble_eq_true rfl⟩ ⟨(Nat.le_of_ble_eq_true rfl), (Nat.le_of_ble_eq_true rfl)⟩ rfl hl.1 rfl (Nat.le_of_ble_eq_true rfl) dX11_arrives_216 (fun v9 μ19 H locs hp hM hS => ?_)
      obtain ⟨rfl, h⟩ := hp
      refine W.cs (cells' := 0) (slots' := 0) rfl rfl ?_
      refine lv_aload_n S.1 S.2.1 dX11_arrives_219 rfl (lv_at hl 0 rfl) ?_
      refine lv_iload_n S.1 S.2.1 dX11_arrives_220 rfl (lv_at hl 1 rfl) ?_
      refine lv_bipush (v := (nI 6)) S.1 S.2.1 dX11_arrives_221 (by decide) ?_
      refine lv_iconst (v := (nI 1)) S.1 S.2.1 dX11_arrives_223 (by decide) ?_
      obtain ⟨k20, h⟩ := h
      refine mz_V S hG hM hS cf_10 k20 (As := [.int x2, .int (nI 6), .int (nI 1)]) (rest := []) (c_X11_sets h) yf_X11_sets tw_1602 tw_1604 ts_32 ⟨Nat.le_of_ble_eq_true rfl, Nat.le_of_ble_eq_true rfl⟩ ⟨(Nat.le_of_ble_eq_true rfl), (Nat.le_of_ble_eq_true rfl)⟩ rfl hl.1 rfl (Nat.le_of_ble_eq_true rfl) dX11_arrives_224 (fun v9 μ21 H locs hp hM hS => ?_)
      obtain ⟨rfl, h⟩ := hp
      refine W.cs (cells' := 0) (slots' := 0) rfl rfl ?_
      exact mz_vret S hr hlk hM hS (Nat.le_of_ble_eq_true rfl) (Nat.le_of_ble_eq_true rfl) dX11_arrives_227 ⟨rfl, h⟩
    · have h := h.2 c15
      refine lv_aload_n S.1 S.2.1 dX11_arrives_184 rfl (lv_at hl 0 rfl) ?_
      obtain ⟨k22, h⟩ := h
      refine mz_getr S hG hM cf_10 fd_321 tw_1483 dX11_arrives_185 k22 ?_
      refine lv_bipush (v := (nI 9)) S.1 S.2.1 dX11_arrives_188 (by decide) ?_
      refine lv_dup2_11 S.1 S.2.1 dX11_arrives_190 rfl (mz_cat _) ?_
      obtain ⟨a23, e24, h⟩ := h
      refine mz_o1 e24 ?_
      obtain ⟨k25, h⟩ := h
      obtain ⟨b26, h⟩ := h
      refine mz_iald S hG hM dX11_arrives_191 k25 b26 ?_
      refine lv_iconst (v := (nI 1)) S.1 S.2.1 dX11_arrives_192 (by decide) ?_
      refine lv_iadd S.1 S.2.1 dX11_arrives_193 ?_
      refine mz_o2 e24 ?_
      obtain ⟨b27, h⟩ := h
      refine mz_iast S hG hM hS dX11_arrives_194 k25 b27 (fun H locs hM hS hz9 => ?_)
      refine lv_aload_n S.1 S.2.1 dX11_arrives_195 rfl (lv_at hl 0 rfl) ?_
      refine lv_iload_n S.1 S.2.1 dX11_arrives_196 rfl (lv_at hl 1 rfl) ?_
      refine mz_V S hG hM hS cf_10 k22 (As := [.int x2]) (rest := []) (c_X11_ceases h) yf_X11_ceases tw_1626 tw_1628 ts_37 ⟨Nat.le_of_ble_eq_true rfl, Nat.le_of_ble_eq_true rfl⟩ ⟨(Nat.le_of_ble_eq_true rfl), (Nat.le_of_ble_eq_true rfl)⟩ rfl hl.1 rfl (Nat.le_of_ble_eq_true rfl) dX11_arrives_197 (fun v9 μ28 H locs hp hM hS => ?_)
      obtain ⟨rfl, h⟩ := hp
      refine W.cs (cells' := 0) (slots' := 0) rfl rfl ?_
      exact mz_vret S hr hlk hM hS (Nat.le_of_ble_eq_true rfl) (Nat.le_of_ble_eq_true rfl) dX11_arrives_200 ⟨rfl, h⟩
  have hB87 : ∀ (x1 : Int32) (x2 : Int32) (x3 : Int32) (x4 : Int32) (x5 : Int32) (μ : mmT) (H : Heap) (locs : List Loc) (ls : Array Slot), Mm G μ H → va_S (Ah G) s.heap H locs → lv_has ls 6 [(0, .ref o), (1, .int x1), (2, .int x2), (3, .int x3), (4, .int x4), (5, .int x5)] → w_X11_arrives_b87 G o Q  x1 x2 x3 x4 x5 μ → W p l e { frames := 2, cells := 0, slots := 0, locals := 47 } s m args below meth c H locs 0 0 (MQ below (mQ G (pV Q)) args s 0 0 (Ah G)) (F0 m 87 ls []) := by
    intro  x1 x2 x3 x4 x5 μ H locs ls hM hS hl h
    unfold w_X11_arrives_b87 at h
    refine lv_iload S.1 S.2.1 dX11_arrives_87 (lv_at hl 5 rfl) ?_
    refine lv_if_ne (tgt := 178) S.1 S.2.1 dX11_arrives_89 (by decide) (fun c14 => ?_) (fun c14 => ?_)
    · have h := h.1 c14
      exact hB178  x2 x4 μ H locs ls hM hS (lv_sub hl [0, 2, 4] rfl) h
    · have h := h.2 c14
      refine lv_aload_n S.1 S.2.1 dX11_arrives_92 rfl (lv_at hl 0 rfl) ?_
      refine lv_iload_n S.1 S.2.1 dX11_arrives_93 rfl (lv_at hl 3 rfl) ?_
      refine lv_iconst (v := (nI 2)) S.1 S.2.1 dX11_arrives_94 (by decide) ?_
      obtain ⟨k29, h⟩ := h
      refine mz_V S hG hM hS cf_10 k29 (As := [.int x3, .int (nI 2)]) (rest := []) (c_X11_nest h) yf_X11_nest tw_1614 tw_1616 ts_34 ⟨Nat.le_of_ble_eq_true rfl, Nat.le_of_ble_eq_true rfl⟩ ⟨(Nat.le_of_ble_eq_true rfl), (Nat.le_of_ble_eq_true rfl)⟩ rfl hl.1 rfl (Nat.le_of_ble_eq_true rfl) dX11_arrives_95 (fun v9 μ9 H locs hp hM hS => ?_)
      obtain ⟨u30, rfl, e9, h⟩ := hp
      rw [e9] at hM
      refine W.cs (cells' := 0) (slots' := 0) rfl rfl ?_
      refine lv_bipush (v := (nI 8)) S.1 S.2.1 dX11_arrives_98 (by decide) ?_
      refine lv_icmp_ge (tgt := 178) S.1 S.2.1 dX11_arrives_100 (by decide) (fun c31 => ?_) (fun c31 => ?_)
      · have h := h.1 c31
        exact hB178  x2 x4 μ H locs ls hM hS (lv_sub hl [0, 2, 4] rfl) h
      · have h := h.2 c31
        refine lv_aload_n S.1 S.2.1 dX11_arrives_103 rfl (lv_at hl 0 rfl) ?_
        refine lv_iload_n S.1 S.2.1 dX11_arrives_104 rfl (lv_at hl 2 rfl) ?_
        refine lv_iconst (v := (nI 4)) S.1 S.2.1 dX11_arrives_105 (by decide) ?_
        refine lv_bipush (v := (nI 100)) S.1 S.2.1 dX11_arrives_106 (by decide) ?_
        refine mz_V S hG hM hS cf_10 k29 (As := [.int x2, .int (nI 4), .int (nI 100)]) (rest := []) (c_X11_sets h) yf_X11_sets tw_1602 tw_1604 ts_32 ⟨Nat.le_of_ble_eq_true rfl, Nat.le_of_ble_eq_true rfl⟩ ⟨(Nat.le_of_ble_eq_true rfl), (Nat.le_of_ble_eq_true rfl)⟩ rfl hl.1 rfl (Nat.le_of_ble_eq_true rfl) dX11_arrives_108 (fun v9 μ32 H locs hp hM hS => ?_)
        obtain ⟨rfl, h⟩ := hp
        refine W.cs (cells' := 0) (slots' := 0) rfl rfl ?_
        refine lv_aload_n S.1 S.2.1 dX11_arrives_111 rfl (lv_at hl 0 rfl) ?_
        refine lv_iload_n S.1 S.2.1 dX11_arrives_112 rfl (lv_at hl 3 rfl) ?_
        refine lv_iconst (v := (nI 3)) S.1 S.2.1 dX11_arrives_113 (by decide) ?_
        refine lv_aload_n S.1 S.2.1 dX11_arrives_114 rfl (lv_at hl 0 rfl) ?_
        refine lv_iload_n S.1 S.2.1 dX11_arrives_115 rfl (lv_at hl 3 rfl) ?_
        refine lv_iconst (v := (nI 2)) S.1 S.2.1 dX11_arrives_116 (by decide) ?_
        obtain ⟨k33, h⟩ := h
        refine mz_V S hG hM hS cf_10 k33 (As := [.int x3, .int (nI 2)]) (rest := [.int (nI 3), .int x3, .ref o]) (c_X11_nest h) yf_X11_nest tw_1614 tw_1616 ts_34 ⟨Nat.le_of_ble_eq_true rfl, Nat.le_of_ble_eq_true rfl⟩ ⟨(Nat.le_of_ble_eq_true rfl), (Nat.le_of_ble_eq_true rfl)⟩ rfl hl.1 rfl (Nat.le_of_ble_eq_true rfl) dX11_arrives_117 (fun v9 μ9 H locs hp hM hS => ?_)
        obtain ⟨u34, rfl, e9, h⟩ := hp
        rw [e9] at hM
        refine W.cs (cells' := 0) (slots' := 0) rfl rfl ?_
        refine lv_iadd S.1 S.2.1 dX11_arrives_120 ?_
        refine lv_iload_n S.1 S.2.1 dX11_arrives_121 rfl (lv_at hl 1 rfl) ?_
        refine mz_V S hG hM hS cf_10 k33 (As := [.int x3, .int ((nI 3) + u34), .int x1]) (rest := []) (c_X11_setsNest h) yf_X11_setsNest tw_1562 tw_1564 ts_24 ⟨Nat.le_of_ble_eq_true rfl, Nat.le_of_ble_eq_true rfl⟩ ⟨(Nat.le_of_ble_eq_true rfl), (Nat.le_of_ble_eq_true rfl)⟩ rfl hl.1 rfl (Nat.le_of_ble_eq_true rfl) dX11_arrives_122 (fun v9 μ35 H locs hp hM hS => ?_)
        obtain ⟨rfl, h⟩ := hp
        refine W.cs (cells' := 0) (slots' := 0) rfl rfl ?_
        refine lv_aload_n S.1 S.2.1 dX11_arrives_125 rfl (lv_at hl 0 rfl) ?_
        refine lv_iload_n S.1 S.2.1 dX11_arrives_126 rfl (lv_at hl 3 rfl) ?_
        refine lv_iconst (v := (nI 2)) S.1 S.2.1 dX11_arrives_127 (by decide) ?_
        refine lv_aload_n S.1 S.2.1 dX11_arrives_128 rfl (lv_at hl 0 rfl) ?_
        refine lv_iload_n S.1 S.2.1 dX11_arrives_129 rfl (lv_at hl 3 rfl) ?_
        refine lv_iconst (v := (nI 2)) S.1 S.2.1 dX11_arrives_130 (by decide) ?_
        obtain ⟨k36, h⟩ := h
        refine mz_V S hG hM hS cf_10 k36 (As := [.int x3, .int (nI 2)]) (rest := [.int (nI 2), .int x3, .ref o]) (c_X11_nest h) yf_X11_nest tw_1614 tw_1616 ts_34 ⟨Nat.le_of_ble_eq_true rfl, Nat.le_of_ble_eq_true rfl⟩ ⟨(Nat.le_of_ble_eq_true rfl), (Nat.le_of_ble_eq_true rfl)⟩ rfl hl.1 rfl (Nat.le_of_ble_eq_true rfl) dX11_arrives_131 (fun v9 μ9 H locs hp hM hS => ?_)
        obtain ⟨u37, rfl, e9, h⟩ := hp
        rw [e9] at hM
        refine W.cs (cells' := 0) (slots' := 0) rfl rfl ?_
        refine lv_iconst (v := (nI 1)) S.1 S.2.1 dX11_arrives_134 (by decide) ?_
        refine lv_iadd S.1 S.2.1 dX11_arrives_135 ?_
        refine mz_V S hG hM hS cf_10 k36 (As := [.int x3, .int (nI 2), .int (u37 + (nI 1))]) (rest := []) (c_X11_setsNest h) yf_X11_setsNest tw_1562 tw_1564 ts_24 ⟨Nat.le_of_ble_eq_true rfl, Nat.le_of_ble_eq_true rfl⟩ ⟨(Nat.le_of_ble_eq_true rfl), (Nat.le_of_ble_eq_true rfl)⟩ rfl hl.1 rfl (Nat.le_of_ble_eq_true rfl) dX11_arrives_136 (fun v9 μ38 H locs hp hM hS => ?_)
        obtain ⟨rfl, h⟩ := hp
        refine W.cs (cells' := 0) (slots' := 0) rfl rfl ?_
        refine lv_aload_n S.1 S.2.1 dX11_arrives_139 rfl (lv_at hl 0 rfl) ?_
        refine lv_iload_n S.1 S.2.1 dX11_arrives_140 rfl (lv_at hl 3 rfl) ?_
        refine lv_bipush (v := (nI 20)) S.1 S.2.1 dX11_arrives_141 (by decide) ?_
        refine lv_aload_n S.1 S.2.1 dX11_arrives_143 rfl (lv_at hl 0 rfl) ?_
        refine lv_iload_n S.1 S.2.1 dX11_arrives_144 rfl (lv_at hl 3 rfl) ?_
        refine lv_bipush (v := (nI 20)) S.1 S.2.1 dX11_arrives_145 (by decide) ?_
        obtain ⟨k39, h⟩ := h
        refine mz_V S hG hM hS cf_10 k39 (As := [.int x3, .int (nI 20)]) (rest := [.int (nI 20), .int x3, .ref o]) (c_X11_nest h) yf_X11_nest tw_1614 tw_1616 ts_34 ⟨Nat.le_of_ble_eq_true rfl, Nat.le_of_ble_eq_true rfl⟩ ⟨(Nat.le_of_ble_eq_true rfl), (Nat.le_of_ble_eq_true rfl)⟩ rfl hl.1 rfl (Nat.le_of_ble_eq_true rfl) dX11_arrives_147 (fun v9 μ9 H locs hp hM hS => ?_)
        obtain ⟨u40, rfl, e9, h⟩ := hp
        rw [e9] at hM
        refine W.cs (cells' := 0) (slots' := 0) rfl rfl ?_
        refine lv_iconst (v := (nI 1)) S.1 S.2.1 dX11_arrives_150 (by decide) ?_
        refine lv_iadd S.1 S.2.1 dX11_arrives_151 ?_
        refine mz_V S hG hM hS cf_10 k39 (As := [.int x3, .int (nI 20), .int (u40 + (nI 1))]) (rest := []) (c_X11_setsNest h) yf_X11_setsNest tw_1562 tw_1564 ts_24 ⟨Nat.le_of_ble_eq_true rfl, Nat.le_of_ble_eq_true rfl⟩ ⟨(Nat.le_of_ble_eq_true rfl), (Nat.le_of_ble_eq_true rfl)⟩ rfl hl.1 rfl (Nat.le_of_ble_eq_true rfl) dX11_arrives_152 (fun v9 μ41 H locs hp hM hS => ?_)
        obtain ⟨rfl, h⟩ := hp
        refine W.cs (cells' := 0) (slots' := 0) rfl rfl ?_
        refine lv_aload_n S.1 S.2.1 dX11_arrives_155 rfl (lv_at hl 0 rfl) ?_
        obtain ⟨k42, h⟩ := h
        refine mz_getr S hG hM cf_10 fd_321 tw_1483 dX11_arrives_156 k42 ?_
        refine lv_bipush (v := (nI 6)) S.1 S.2.1 dX11_arrives_159 (by decide) ?_
        refine lv_dup2_11 S.1 S.2.1 dX11_arrives_161 rfl (mz_cat _) ?_
        obtain ⟨a43, e44, h⟩ := h
        refine mz_o1 e44 ?_
        obtain ⟨k45, h⟩ := h
        obtain ⟨b46, h⟩ := h
        refine mz_iald S hG hM dX11_arrives_162 k45 b46 ?_
        refine lv_iconst (v := (nI 1)) S.1 S.2.1 dX11_arrives_163 (by decide) ?_
        refine lv_iadd S.1 S.2.1 dX11_arrives_164 ?_
        refine mz_o2 e44 ?_
        obtain ⟨b47, h⟩ := h
        refine mz_iast S hG hM hS dX11_arrives_165 k45 b47 (fun H locs hM hS hz9 => ?_)
        refine lv_aload_n S.1 S.2.1 dX11_arrives_166 rfl (lv_at hl 0 rfl) ?_
        refine lv_iload_n S.1 S.2.1 dX11_arrives_167 rfl (lv_at hl 3 rfl) ?_
        refine lv_aload_n S.1 S.2.1 dX11_arrives_168 rfl (lv_at hl 0 rfl) ?_
        refine lv_iload_n S.1 S.2.1 dX11_arrives_169 rfl (lv_at hl 2 rfl) ?_
        refine lv_iconst (v := (nI 2)) S.1 S.2.1 dX11_arrives_170 (by decide) ?_
        refine mz_V S hG hM hS cf_10 k42 (As := [.int x2, .int (nI 2)]) (rest := [.int x3, .ref o]) (c_X11_of h) yf_X11_of tw_1622 tw_1624 ts_36 ⟨Nat.le_of_ble_eq_true rfl, Nat.le_of_ble_eq_true rfl⟩ ⟨(Nat.le_of_ble_eq_true rfl), (Nat.le_of_ble_eq_true rfl)⟩ rfl hl.1 rfl (Nat.le_of_ble_eq_true rfl) dX11_arrives_171 (fun v9 μ9 H locs hp hM hS => ?_)
        obtain ⟨u48, rfl, e9, h⟩ := hp
        rw [e9] at hM
        refine W.cs (cells' := 0) (slots' := 0) rfl rfl ?_
        refine mz_V S hG hM hS cf_10 k42 (As := [.int x3, .int u48]) (rest := []) (c_X11_learns h) yf_X11_learns tw_1678 tw_1680 ts_46 ⟨Nat.le_of_ble_eq_true rfl, Nat.le_of_ble_eq_true rfl⟩ ⟨(Nat.le_of_ble_eq_true rfl), (Nat.le_of_ble_eq_true rfl)⟩ rfl hl.1 rfl (Nat.le_of_ble_eq_true rfl) dX11_arrives_174 (fun v9 μ49 H locs hp hM hS => ?_)
        obtain ⟨rfl, h⟩ := hp
        refine W.cs (cells' := 0) (slots' := 0) rfl rfl ?_
        exact mz_vret S hr hlk hM hS (Nat.le_of_ble_eq_true rfl) (Nat.le_of_ble_eq_true rfl) dX11_arrives_177 ⟨rfl, h⟩
  intro H locs ls hM hS hl
  have hl : lv_has ls 6 [(0, .ref o), (1, .int x1)] := hl
  unfold w_X11_arrives at h
  refine lv_aload_n S.1 S.2.1 dX11_arrives_0 rfl (lv_at hl 0 rfl) ?_
  refine lv_iload_n S.1 S.2.1 dX11_arrives_1 rfl (lv_at hl 1 rfl) ?_
  obtain ⟨k1, h⟩ := h
  refine mz_V S hG hM hS cf_10 k1 (As := [.int x1]) (rest := []) (c_X11_placeOf h) yf_X11_placeOf tw_1618 tw_1620 ts_35 ⟨Nat.le_of_ble_eq_true rfl, Nat.le_of_ble_eq_true rfl⟩ ⟨(Nat.le_of_ble_eq_true rfl), (Nat.le_of_ble_eq_true rfl)⟩ rfl hl.1 rfl (Nat.le_of_ble_eq_true rfl) dX11_arrives_2 (fun v9 μ9 H locs hp hM hS => ?_)
  obtain ⟨u2, rfl, e9, h⟩ := hp
  rw [e9] at hM
  refine W.cs (cells' := 0) (slots' := 0) rfl rfl ?_
  refine lv_istore_n (lv' := [(2, .int u2), (0, .ref o), (1, .int x1)]) S.1 S.2.1 dX11_arrives_5 rfl hl (by decide) rfl (fun ls hl => ?_)
  refine lv_aload_n S.1 S.2.1 dX11_arrives_6 rfl (lv_at hl 1 rfl) ?_
  refine lv_iload_n S.1 S.2.1 dX11_arrives_7 rfl (lv_at hl 0 rfl) ?_
  refine lv_iconst (v := (nI 1)) S.1 S.2.1 dX11_arrives_8 (by decide) ?_
  refine mz_V S hG hM hS cf_10 k1 (As := [.int u2, .int (nI 1)]) (rest := []) (c_X11_of h) yf_X11_of tw_1622 tw_1624 ts_36 ⟨Nat.le_of_ble_eq_true rfl, Nat.le_of_ble_eq_true rfl⟩ ⟨(Nat.le_of_ble_eq_true rfl), (Nat.le_of_ble_eq_true rfl)⟩ rfl hl.1 rfl (Nat.le_of_ble_eq_true rfl) dX11_arrives_9 (fun v9 μ9 H locs hp hM hS => ?_)
  obtain ⟨u3, rfl, e9, h⟩ := hp
  rw [e9] at hM
  refine W.cs (cells' := 0) (slots' := 0) rfl rfl ?_
  refine lv_istore_n (lv' := [(3, .int u3), (2, .int u2), (0, .ref o), (1, .int x1)]) S.1 S.2.1 dX11_arrives_12 rfl hl (by decide) rfl (fun ls hl => ?_)
  refine lv_aload_n S.1 S.2.1 dX11_arrives_13 rfl (lv_at hl 2 rfl) ?_
  refine lv_iload_n S.1 S.2.1 dX11_arrives_14 rfl (lv_at hl 1 rfl) ?_
  refine lv_iconst (v := (nI 3)) S.1 S.2.1 dX11_arrives_15 (by decide) ?_
  refine mz_V S hG hM hS cf_10 k1 (As := [.int u2, .int (nI 3)]) (rest := []) (c_X11_of h) yf_X11_of tw_1622 tw_1624 ts_36 ⟨Nat.le_of_ble_eq_true rfl, Nat.le_of_ble_eq_true rfl⟩ ⟨(Nat.le_of_ble_eq_true rfl), (Nat.le_of_ble_eq_true rfl)⟩ rfl hl.1 rfl (Nat.le_of_ble_eq_true rfl) dX11_arrives_16 (fun v9 μ9 H locs hp hM hS => ?_)
  obtain ⟨u4, rfl, e9, h⟩ := hp
  rw [e9] at hM
  refine W.cs (cells' := 0) (slots' := 0) rfl rfl ?_
  refine lv_iconst (v := (nI 1)) S.1 S.2.1 dX11_arrives_19 (by decide) ?_
  refine lv_iadd S.1 S.2.1 dX11_arrives_20 ?_
  refine lv_istore (lv' := [(4, .int (u4 + (nI 1))), (3, .int u3), (2, .int u2), (0, .ref o), (1, .int x1)]) S.1 S.2.1 dX11_arrives_21 hl (by decide) rfl (fun ls hl => ?_)
  refine lv_aload_n S.1 S.2.1 dX11_arrives_23 rfl (lv_at hl 3 rfl) ?_
  refine lv_iload_n S.1 S.2.1 dX11_arrives_24 rfl (lv_at hl 2 rfl) ?_
  refine lv_iconst (v := (nI 3)) S.1 S.2.1 dX11_arrives_25 (by decide) ?_
  refine lv_iload S.1 S.2.1 dX11_arrives_26 (lv_at hl 0 rfl) ?_
  refine mz_V S hG hM hS cf_10 k1 (As := [.int u2, .int (nI 3), .int (u4 + (nI 1))]) (rest := []) (c_X11_sets h) yf_X11_sets tw_1602 tw_1604 ts_32 ⟨Nat.le_of_ble_eq_true rfl, Nat.le_of_ble_eq_true rfl⟩ ⟨(Nat.le_of_ble_eq_true rfl), (Nat.le_of_ble_eq_true rfl)⟩ rfl hl.1 rfl (Nat.le_of_ble_eq_true rfl) dX11_arrives_28 (fun v9 μ5 H locs hp hM hS => ?_)
  obtain ⟨rfl, h⟩ := hp
  refine W.cs (cells' := 0) (slots' := 0) rfl rfl ?_
  refine lv_aload_n S.1 S.2.1 dX11_arrives_31 rfl (lv_at hl 3 rfl) ?_
  obtain ⟨k6, h⟩ := h
  refine mz_getr S hG hM cf_10 fd_321 tw_1483 dX11_arrives_32 k6 ?_
  refine lv_bipush (v := (nI 10)) S.1 S.2.1 dX11_arrives_35 (by decide) ?_
  refine lv_dup2_11 S.1 S.2.1 dX11_arrives_37 rfl (mz_cat _) ?_
  obtain ⟨a7, e8, h⟩ := h
  refine mz_o1 e8 ?_
  obtain ⟨k9, h⟩ := h
  obtain ⟨b10, h⟩ := h
  refine mz_iald S hG hM dX11_arrives_38 k9 b10 ?_
  refine lv_iconst (v := (nI 1)) S.1 S.2.1 dX11_arrives_39 (by decide) ?_
  refine lv_iadd S.1 S.2.1 dX11_arrives_40 ?_
  refine mz_o2 e8 ?_
  obtain ⟨b11, h⟩ := h
  refine mz_iast S hG hM hS dX11_arrives_41 k9 b11 (fun H locs hM hS hz9 => ?_)
  refine lv_aload_n S.1 S.2.1 dX11_arrives_42 rfl (lv_at hl 3 rfl) ?_
  refine lv_iload_n S.1 S.2.1 dX11_arrives_43 rfl (lv_at hl 2 rfl) ?_
  refine lv_iload S.1 S.2.1 dX11_arrives_44 (lv_at hl 0 rfl) ?_
  refine mz_V S hG hM hS cf_10 k6 (As := [.int u2, .int (u4 + (nI 1))]) (rest := []) (c_X11_isLost h) yf_X11_isLost tw_1670 tw_1672 ts_44 ⟨Nat.le_of_ble_eq_true rfl, Nat.le_of_ble_eq_true rfl⟩ ⟨(Nat.le_of_ble_eq_true rfl), (Nat.le_of_ble_eq_true rfl)⟩ rfl hl.1 rfl (Nat.le_of_ble_eq_true rfl) dX11_arrives_46 (fun v9 μ9 H locs hp hM hS => ?_)
  obtain ⟨u12, rfl, e9, h⟩ := hp
  rw [e9] at hM
  refine W.cs (cells' := 0) (slots' := 0) rfl rfl ?_
  refine lv_istore (lv' := [(5, .int u12), (4, .int (u4 + (nI 1))), (3, .int u3), (2, .int u2), (0, .ref o), (1, .int x1)]) S.1 S.2.1 dX11_arrives_49 hl (by decide) rfl (fun ls hl => ?_)
  refine lv_iload S.1 S.2.1 dX11_arrives_51 (lv_at hl 0 rfl) ?_
  refine lv_if_ne (tgt := 87) S.1 S.2.1 dX11_arrives_53 (by decide) (fun c13 => ?_) (fun c13 => ?_)
  · have h := h.1 c13
    exact hB87  x1 u2 u3 (u4 + (nI 1)) u12 (sA μ5 a7 (nI 10).toNatClampNeg ((mA μ5 a7 (nI 10).toNatClampNeg) + (nI 1))) H locs ls hM hS (lv_sub hl [4, 5, 3, 2, 1, 0] rfl) h
  · have h := h.2 c13
    refine lv_aload_n S.1 S.2.1 dX11_arrives_56 rfl (lv_at hl 4 rfl) ?_
    refine lv_iload_n S.1 S.2.1 dX11_arrives_57 rfl (lv_at hl 2 rfl) ?_
    refine lv_aload_n S.1 S.2.1 dX11_arrives_58 rfl (lv_at hl 4 rfl) ?_
    refine lv_iload_n S.1 S.2.1 dX11_arrives_59 rfl (lv_at hl 3 rfl) ?_
    refine lv_iconst (v := (nI 2)) S.1 S.2.1 dX11_arrives_60 (by decide) ?_
    refine mz_V S hG hM hS cf_10 k6 (As := [.int u2, .int (nI 2)]) (rest := [.int u3, .ref o]) (c_X11_of h) yf_X11_of tw_1622 tw_1624 ts_36 ⟨Nat.le_of_ble_eq_true rfl, Nat.le_of_ble_eq_true rfl⟩ ⟨(Nat.le_of_ble_eq_true rfl), (Nat.le_of_ble_eq_true rfl)⟩ rfl hl.1 rfl (Nat.le_of_ble_eq_true rfl) dX11_arrives_61 (fun v9 μ9 H locs hp hM hS => ?_)
    obtain ⟨u50, rfl, e9, h⟩ := hp
    rw [e9] at hM
    refine W.cs (cells' := 0) (slots' := 0) rfl rfl ?_
    refine mz_V S hG hM hS cf_10 k6 (As := [.int u3, .int u50]) (rest := []) (c_X11_knows h) yf_X11_knows tw_1674 tw_1676 ts_45 ⟨Nat.le_of_ble_eq_true rfl, Nat.le_of_ble_eq_true rfl⟩ ⟨(Nat.le_of_ble_eq_true rfl), (Nat.le_of_ble_eq_true rfl)⟩ rfl hl.1 rfl (Nat.le_of_ble_eq_true rfl) dX11_arrives_64 (fun v9 μ9 H locs hp hM hS => ?_)
    obtain ⟨u51, rfl, e9, h⟩ := hp
    rw [e9] at hM
    refine W.cs (cells' := 0) (slots' := 0) rfl rfl ?_
    refine lv_if_eq (tgt := 87) S.1 S.2.1 dX11_arrives_67 (by decide) (fun c52 => ?_) (fun c52 => ?_)
    · have h := h.1 c52
      exact hB87  x1 u2 u3 (u4 + (nI 1)) u12 (sA μ5 a7 (nI 10).toNatClampNeg ((mA μ5 a7 (nI 10).toNatClampNeg) + (nI 1))) H locs ls hM hS (lv_sub hl [4, 5, 3, 2, 1, 0] rfl) h
    · have h := h.2 c52
      refine lv_aload_n S.1 S.2.1 dX11_arrives_70 rfl (lv_at hl 4 rfl) ?_
      refine mz_getr S hG hM cf_10 fd_321 tw_1483 dX11_arrives_71 k6 ?_
      refine lv_bipush (v := (nI 8)) S.1 S.2.1 dX11_arrives_74 (by decide) ?_
      refine lv_dup2_11 S.1 S.2.1 dX11_arrives_76 rfl (mz_cat _) ?_
      obtain ⟨a53, e54, h⟩ := h
      refine mz_o1 e54 ?_
      obtain ⟨k55, h⟩ := h
      obtain ⟨b56, h⟩ := h
      refine mz_iald S hG hM dX11_arrives_77 k55 b56 ?_
      refine lv_iconst (v := (nI 1)) S.1 S.2.1 dX11_arrives_78 (by decide) ?_
      refine lv_iadd S.1 S.2.1 dX11_arrives_79 ?_
      refine mz_o2 e54 ?_
      obtain ⟨b57, h⟩ := h
      refine mz_iast S hG hM hS dX11_arrives_80 k55 b57 (fun H locs hM hS hz9 => ?_)
      refine lv_aload_n S.1 S.2.1 dX11_arrives_81 rfl (lv_at hl 4 rfl) ?_
      refine lv_iload_n S.1 S.2.1 dX11_arrives_82 rfl (lv_at hl 3 rfl) ?_
      refine mz_V S hG hM hS cf_10 k6 (As := [.int u2]) (rest := []) (c_X11_ceases h) yf_X11_ceases tw_1626 tw_1628 ts_37 ⟨Nat.le_of_ble_eq_true rfl, Nat.le_of_ble_eq_true rfl⟩ ⟨(Nat.le_of_ble_eq_true rfl), (Nat.le_of_ble_eq_true rfl)⟩ rfl hl.1 rfl (Nat.le_of_ble_eq_true rfl) dX11_arrives_83 (fun v9 μ58 H locs hp hM hS => ?_)
      obtain ⟨rfl, h⟩ := hp
      refine W.cs (cells' := 0) (slots' := 0) rfl rfl ?_
      exact mz_vret S hr hlk hM hS (Nat.le_of_ble_eq_true rfl) (Nat.le_of_ble_eq_true rfl) dX11_arrives_86 ⟨rfl, h⟩
set_option maxRecDepth 100000 in
set_option maxHeartbeats 4000000 in
theorem c_X11_waiting {l : Launch} {G : mgT} {μ : mmT} {o : Nat} {x1 : Int32} {Q : Int32 → Prop} (h : w_X11_waiting G μ o x1 Q) : MC G l yX11_waiting cX11_waiting 5 (some .int) { frames := 1, cells := 0, slots := 0, locals := 22 } [.ref o, .int x1] μ (pI (fun r μ' => μ' = μ ∧ Q r)) := by
  refine mz_MC (by decide +kernel) (Nat.le_of_ble_eq_true rfl) (fun p e s m args below meth c S hG hr hlk hnm => ?_)
  have hB113 : ∀ (K2 : Int32 → Int32 → Prop) (kK2 : ∀ (x1 : Int32) (x2 : Int32) (H : Heap) (locs : List Loc) (ls : Array Slot), Mm G μ H → va_S (Ah G) s.heap H locs → lv_has ls 5 [(0, .ref o), (1, .int x1), (2, .int x2)] → K2 x1 x2 → W p l e { frames := 1, cells := 0, slots := 0, locals := 22 } s m args below meth c H locs 0 0 (MQ below (mQ G (pI (fun r μ' => μ' = μ ∧ Q r))) args s 0 0 (Ah G)) (F0 m 2 ls [])) (x1 : Int32) (x2 : Int32) (H : Heap) (locs : List Loc) (ls : Array Slot), Mm G μ H → va_S (Ah G) s.heap H locs → lv_has ls 5 [(0, .ref o), (1, .int x1), (2, .int x2)] → w_X11_waiting_b113 G μ o Q K2 x1 x2 → W p l e { frames := 1, cells := 0, slots := 0, locals := 22 } s m args below meth c H locs 0 0 (MQ below (mQ G (pI (fun r μ' => μ' = μ ∧ Q r))) args s 0 0 (Ah G)) (F0 m 113 ls []) := by
    intro K2 kK2 x1 x2 H locs ls hM hS hl h
    unfold w_X11_waiting_b113 at h
    refine lv_iinc (v := (x2 + nI 1)) (lv' := [(2, .int (x2 + nI 1)), (0, .ref o), (1, .int x1)]) S.1 S.2.1 dX11_waiting_113 hl (k := 2) rfl rfl (by decide) rfl (fun ls hl => ?_)
    refine lv_goto (tgt := 2) S.1 S.2.1 dX11_waiting_116 (by decide) ?_
    exact kK2 x1 (x2 + nI 1) H locs ls hM hS (lv_sub hl [1, 2, 0] rfl) h
  have hB98 : ∀ (K2 : Int32 → Int32 → Prop) (kK2 : ∀ (x1 : Int32) (x2 : Int32) (H : Heap) (locs : List Loc) (ls : Array Slot), Mm G μ H → va_S (Ah G) s.heap H locs → lv_has ls 5 [(0, .ref o), (1, .int x1), (2, .int x2)] → K2 x1 x2 → W p l e { frames := 1, cells := 0, slots := 0, locals := 22 } s m args below meth c H locs 0 0 (MQ below (mQ G (pI (fun r μ' => μ' = μ ∧ Q r))) args s 0 0 (Ah G)) (F0 m 2 ls [])) (K31 : Int32 → Int32 → Int32 → Int32 → Prop) (kK31 : ∀ (x1 : Int32) (x2 : Int32) (x3 : Int32) (x4 : Int32) (H : Heap) (locs : List Loc) (ls : Array Slot), Mm G μ H → va_S (Ah G) s.heap H locs → lv_has ls 5 [(0, .ref o), (1, .int x1), (2, .int x2), (3, .int x3), (4, .int x4)] → K31 x1 x2 x3 x4 → W p l e { frames := 1, cells := 0, slots := 0, locals := 22 } s m args below meth c H locs 0 0 (MQ below (mQ G (pI (fun r μ' => μ' = μ ∧ Q r))) args s 0 0 (Ah G)) (F0 m 31 ls [])) (x1 : Int32) (x2 : Int32) (x4 : Int32) (s0 : Int32) (s1 : Int32) (H : Heap) (locs : List Loc) (ls : Array Slot), Mm G μ H → va_S (Ah G) s.heap H locs → lv_has ls 5 [(0, .ref o), (1, .int x1), (2, .int x2), (4, .int x4)] → w_X11_waiting_b98 G μ o Q K2 K31 x1 x2 x4 s0 s1 → W p l e { frames := 1, cells := 0, slots := 0, locals := 22 } s m args below meth c H locs 0 0 (MQ below (mQ G (pI (fun r μ' => μ' = μ ∧ Q r))) args s 0 0 (Ah G)) (F0 m 98 ls [.int s1, .int s0]) := by
    intro K2 kK2 K31 kK31 x1 x2 x4 s0 s1 H locs ls hM hS hl h
    unfold w_X11_waiting_b98 at h
    refine lv_iadd S.1 S.2.1 dX11_waiting_98 ?_
    refine lv_istore_n (lv' := [(3, .int (s0 + s1)), (0, .ref o), (1, .int x1), (2, .int x2), (4, .int x4)]) S.1 S.2.1 dX11_waiting_99 rfl hl (by decide) rfl (fun ls hl => ?_)
    refine lv_iinc (v := (x4 + nI 1)) (lv' := [(4, .int (x4 + nI 1)), (3, .int (s0 + s1)), (0, .ref o), (1, .int x1), (2, .int x2)]) S.1 S.2.1 dX11_waiting_100 hl (k := 4) rfl rfl (by decide) rfl (fun ls hl => ?_)
    refine lv_goto (tgt := 31) S.1 S.2.1 dX11_waiting_103 (by decide) ?_
    exact kK31 x1 x2 (s0 + s1) (x4 + nI 1) H locs ls hM hS (lv_sub hl [2, 3, 4, 1, 0] rfl) h
  have hB97 : ∀ (K2 : Int32 → Int32 → Prop) (kK2 : ∀ (x1 : Int32) (x2 : Int32) (H : Heap) (locs : List Loc) (ls : Array Slot), Mm G μ H → va_S (Ah G) s.heap H locs → lv_has ls 5 [(0, .ref o), (1, .int x1), (2, .int x2)] → K2 x1 x2 → W p l e { frames := 1, cells := 0, slots := 0, locals := 22 } s m args below meth c H locs 0 0 (MQ below (mQ G (pI (fun r μ' => μ' = μ ∧ Q r))) args s 0 0 (Ah G)) (F0 m 2 ls [])) (K31 : Int32 → Int32 → Int32 → Int32 → Prop) (kK31 : ∀ (x1 : Int32) (x2 : Int32) (x3 : Int32) (x4 : Int32) (H : Heap) (locs : List Loc) (ls : Array Slot), Mm G μ H → va_S (Ah G) s.heap H locs → lv_has ls 5 [(0, .ref o), (1, .int x1), (2, .int x2), (3, .int x3), (4, .int x4)] → K31 x1 x2 x3 x4 → W p l e { frames := 1, cells := 0, slots := 0, locals := 22 } s m args below meth c H locs 0 0 (MQ below (mQ G (pI (fun r μ' => μ' = μ ∧ Q r))) args s 0 0 (Ah G)) (F0 m 31 ls [])) (x1 : Int32) (x2 : Int32) (x4 : Int32) (s0 : Int32) (H : Heap) (locs : List Loc) (ls : Array Slot), Mm G μ H → va_S (Ah G) s.heap H locs → lv_has ls 5 [(0, .ref o), (1, .int x1), (2, .int x2), (4, .int x4)] → w_X11_waiting_b97 G μ o Q K2 K31 x1 x2 x4 s0 → W p l e { frames := 1, cells := 0, slots := 0, locals := 22 } s m args below meth c H locs 0 0 (MQ below (mQ G (pI (fun r μ' => μ' = μ ∧ Q r))) args s 0 0 (Ah G)) (F0 m 97 ls [.int s0]) := by
    intro K2 kK2 K31 kK31 x1 x2 x4 s0 H locs ls hM hS hl h
    unfold w_X11_waiting_b97 at h
    refine lv_iconst (v := (nI 0)) S.1 S.2.1 dX11_waiting_97 (by decide) ?_
    exact hB98 K2 kK2 K31 kK31 x1 x2 x4 s0 (nI 0) H locs ls hM hS (lv_sub hl [0, 1, 2, 3] rfl) h
  have hB93 : ∀ (K2 : Int32 → Int32 → Prop) (kK2 : ∀ (x1 : Int32) (x2 : Int32) (H : Heap) (locs : List Loc) (ls : Array Slot), Mm G μ H → va_S (Ah G) s.heap H locs → lv_has ls 5 [(0, .ref o), (1, .int x1), (2, .int x2)] → K2 x1 x2 → W p l e { frames := 1, cells := 0, slots := 0, locals := 22 } s m args below meth c H locs 0 0 (MQ below (mQ G (pI (fun r μ' => μ' = μ ∧ Q r))) args s 0 0 (Ah G)) (F0 m 2 ls [])) (K31 : Int32 → Int32 → Int32 → Int32 → Prop) (kK31 : ∀ (x1 : Int32) (x2 : Int32) (x3 : Int32) (x4 : Int32) (H : Heap) (locs : List Loc) (ls : Array Slot), Mm G μ H → va_S (Ah G) s.heap H locs → lv_has ls 5 [(0, .ref o), (1, .int x1), (2, .int x2), (3, .int x3), (4, .int x4)] → K31 x1 x2 x3 x4 → W p l e { frames := 1, cells := 0, slots := 0, locals := 22 } s m args below meth c H locs 0 0 (MQ below (mQ G (pI (fun r μ' => μ' = μ ∧ Q r))) args s 0 0 (Ah G)) (F0 m 31 ls [])) (x1 : Int32) (x2 : Int32) (x4 : Int32) (s0 : Int32) (H : Heap) (locs : List Loc) (ls : Array Slot), Mm G μ H → va_S (Ah G) s.heap H locs → lv_has ls 5 [(0, .ref o), (1, .int x1), (2, .int x2), (4, .int x4)] → w_X11_waiting_b93 G μ o Q K2 K31 x1 x2 x4 s0 → W p l e { frames := 1, cells := 0, slots := 0, locals := 22 } s m args below meth c H locs 0 0 (MQ below (mQ G (pI (fun r μ' => μ' = μ ∧ Q r))) args s 0 0 (Ah G)) (F0 m 93 ls [.int s0]) := by
    intro K2 kK2 K31 kK31 x1 x2 x4 s0 H locs ls hM hS hl h
    unfold w_X11_waiting_b93 at h
    refine lv_iconst (v := (nI 1)) S.1 S.2.1 dX11_waiting_93 (by decide) ?_
    refine lv_goto (tgt := 98) S.1 S.2.1 dX11_waiting_94 (by decide) ?_
    exact hB98 K2 kK2 K31 kK31 x1 x2 x4 s0 (nI 1) H locs ls hM hS (lv_sub hl [0, 1, 2, 3] rfl) h
  have hB31 : ∀ (K2 : Int32 → Int32 → Prop) (kK2 : ∀ (x1 : Int32) (x2 : Int32) (H : Heap) (locs : List Loc) (ls : Array Slot), Mm G μ H → va_S (Ah G) s.heap H locs → lv_has ls 5 [(0, .ref o), (1, .int x1), (2, .int x2)] → K2 x1 x2 → W p l e { frames := 1, cells := 0, slots := 0, locals := 22 } s m args below meth c H locs 0 0 (MQ below (mQ G (pI (fun r μ' => μ' = μ ∧ Q r))) args s 0 0 (Ah G)) (F0 m 2 ls [])) (n : Nat) (x1 : Int32) (x2 : Int32) (x3 : Int32) (x4 : Int32) (H : Heap) (locs : List Loc) (ls : Array Slot), Mm G μ H → va_S (Ah G) s.heap H locs → lv_has ls 5 [(0, .ref o), (1, .int x1), (2, .int x2), (3, .int x3), (4, .int x4)] → w_X11_waiting_l31 G μ o Q K2 n x1 x2 x3 x4 → W p l e { frames := 1, cells := 0, slots := 0, locals := 22 } s m args below meth c H locs 0 0 (MQ below (mQ G (pI (fun r μ' => μ' = μ ∧ Q r))) args s 0 0 (Ah G)) (F0 m 31 ls []) := by
    intro K2 kK2 n
    induction n with
    | zero =>
      intro x1 x2 x3 x4 H locs ls hM hS hl h
      exact False.elim h
    | succ n ih =>
      intro x1 x2 x3 x4 H locs ls hM hS hl h
      have h : w_X11_waiting_b31 G μ o Q K2 (w_X11_waiting_l31 G μ o Q K2 n) x1 x2 x3 x4 := h
      unfold w_X11_waiting_b31 at h
      refine lv_iload S.1 S.2.1 dX11_waiting_31 (lv_at hl 4 rfl) ?_
      refine lv_aload_n S.1 S.2.1 dX11_waiting_33 rfl (lv_at hl 0 rfl) ?_
      obtain ⟨k9, h⟩ := h
      refine mz_getr S hG hM cf_10 fd_321 tw_1483 dX11_waiting_34 k9 ?_
      refine lv_iconst (v := (nI 2)) S.1 S.2.1 dX11_waiting_37 (by decide) ?_
      obtain ⟨a10, e11, h⟩ := h
      refine mz_o1 e11 ?_
      obtain ⟨k12, h⟩ := h
      obtain ⟨b13, h⟩ := h
      refine mz_iald S hG hM dX11_waiting_38 k12 b13 ?_
      refine lv_icmp_ge (tgt := 106) S.1 S.2.1 dX11_waiting_39 (by decide) (fun c14 => ?_) (fun c14 => ?_)
      · have h := h.1 c14
        refine lv_iload_n S.1 S.2.1 dX11_waiting_106 rfl (lv_at hl 3 rfl) ?_
        refine lv_iload_n S.1 S.2.1 dX11_waiting_107 rfl (lv_at hl 1 rfl) ?_
        refine lv_icmp_ne (tgt := 113) S.1 S.2.1 dX11_waiting_108 (by decide) (fun c15 => ?_) (fun c15 => ?_)
        · have h := h.1 c15
          exact hB113 K2 kK2 x1 x2 H locs ls hM hS (lv_sub hl [0, 1, 2] rfl) h
        · have h := h.2 c15
          refine lv_iload_n S.1 S.2.1 dX11_waiting_111 rfl (lv_at hl 2 rfl) ?_
          exact mz_iret S hr hlk hM hS rfl (Nat.le_of_ble_eq_true rfl) (Nat.le_of_ble_eq_true rfl) dX11_waiting_112 ⟨_, rfl, rfl, h⟩
      · have h := h.2 c14
        refine lv_iload_n S.1 S.2.1 dX11_waiting_42 rfl (lv_at hl 3 rfl) ?_
        refine lv_aload_n S.1 S.2.1 dX11_waiting_43 rfl (lv_at hl 0 rfl) ?_
        refine lv_iload S.1 S.2.1 dX11_waiting_44 (lv_at hl 4 rfl) ?_
        refine lv_iconst (v := (nI 4)) S.1 S.2.1 dX11_waiting_46 (by decide) ?_
        refine mz_V S hG hM hS cf_10 k9 (As := [.int x4, .int (nI 4)]) (rest := [.int x3]) (c_X11_of h) yf_X11_of tw_1622 tw_1624 ts_36 ⟨Nat.le_of_ble_eq_true rfl, Nat.le_of_ble_eq_true rfl⟩ ⟨(Nat.le_of_ble_eq_true rfl), (Nat.le_of_ble_eq_true rfl)⟩ rfl hl.1 rfl (Nat.le_of_ble_eq_true rfl) dX11_waiting_47 (fun v9 μ9 H locs hp hM hS => ?_)
        obtain ⟨u16, rfl, e9, h⟩ := hp
        rw [e9] at hM
        refine W.cs (cells' := 0) (slots' := 0) rfl rfl ?_
        refine lv_bipush (v := (nI 119)) S.1 S.2.1 dX11_waiting_50 (by decide) ?_
        refine lv_icmp_ne (tgt := 97) S.1 S.2.1 dX11_waiting_52 (by decide) (fun c17 => ?_) (fun c17 => ?_)
        · have h := h.1 c17
          exact hB97 K2 kK2 (w_X11_waiting_l31 G μ o Q K2 n) ih x1 x2 x4 x3 H locs ls hM hS (lv_sub hl [0, 1, 2, 4] rfl) h
        · have h := h.2 c17
          refine lv_aload_n S.1 S.2.1 dX11_waiting_55 rfl (lv_at hl 0 rfl) ?_
          refine lv_iload S.1 S.2.1 dX11_waiting_56 (lv_at hl 4 rfl) ?_
          refine lv_iconst (v := (nI 3)) S.1 S.2.1 dX11_waiting_58 (by decide) ?_
          refine mz_V S hG hM hS cf_10 k9 (As := [.int x4, .int (nI 3)]) (rest := [.int x3]) (c_X11_of h) yf_X11_of tw_1622 tw_1624 ts_36 ⟨Nat.le_of_ble_eq_true rfl, Nat.le_of_ble_eq_true rfl⟩ ⟨(Nat.le_of_ble_eq_true rfl), (Nat.le_of_ble_eq_true rfl)⟩ rfl hl.1 rfl (Nat.le_of_ble_eq_true rfl) dX11_waiting_59 (fun v9 μ9 H locs hp hM hS => ?_)
          obtain ⟨u18, rfl, e9, h⟩ := hp
          rw [e9] at hM
          refine W.cs (cells' := 0) (slots' := 0) rfl rfl ?_
          refine lv_aload_n S.1 S.2.1 dX11_waiting_62 rfl (lv_at hl 0 rfl) ?_
          refine lv_iload_n S.1 S.2.1 dX11_waiting_63 rfl (lv_at hl 2 rfl) ?_
          refine lv_iconst (v := (nI 3)) S.1 S.2.1 dX11_waiting_64 (by decide) ?_
          refine mz_V S hG hM hS cf_10 k9 (As := [.int x2, .int (nI 3)]) (rest := [.int u18, .int x3]) (c_X11_of h) yf_X11_of tw_1622 tw_1624 ts_36 ⟨Nat.le_of_ble_eq_true rfl, Nat.le_of_ble_eq_true rfl⟩ ⟨(Nat.le_of_ble_eq_true rfl), (Nat.le_of_ble_eq_true rfl)⟩ rfl hl.1 rfl (Nat.le_of_ble_eq_true rfl) dX11_waiting_65 (fun v9 μ9 H locs hp hM hS => ?_)
          obtain ⟨u19, rfl, e9, h⟩ := hp
          rw [e9] at hM
          refine W.cs (cells' := 0) (slots' := 0) rfl rfl ?_
          refine lv_icmp_lt (tgt := 93) S.1 S.2.1 dX11_waiting_68 (by decide) (fun c20 => ?_) (fun c20 => ?_)
          · have h := h.1 c20
            exact hB93 K2 kK2 (w_X11_waiting_l31 G μ o Q K2 n) ih x1 x2 x4 x3 H locs ls hM hS (lv_sub hl [0, 1, 2, 4] rfl) h
          · have h := h.2 c20
            refine lv_aload_n S.1 S.2.1 dX11_waiting_71 rfl (lv_at hl 0 rfl) ?_
            refine lv_iload S.1 S.2.1 dX11_waiting_72 (lv_at hl 4 rfl) ?_
            refine lv_iconst (v := (nI 3)) S.1 S.2.1 dX11_waiting_74 (by decide) ?_
            refine mz_V S hG hM hS cf_10 k9 (As := [.int x4, .int (nI 3)]) (rest := [.int x3]) (c_X11_of h) yf_X11_of tw_1622 tw_1624 ts_36 ⟨Nat.le_of_ble_eq_true rfl, Nat.le_of_ble_eq_true rfl⟩ ⟨(Nat.le_of_ble_eq_true rfl), (Nat.le_of_ble_eq_true rfl)⟩ rfl hl.1 rfl (Nat.le_of_ble_eq_true rfl) dX11_waiting_75 (fun v9 μ9 H locs hp hM hS => ?_)
            obtain ⟨u21, rfl, e9, h⟩ := hp
            rw [e9] at hM
            refine W.cs (cells' := 0) (slots' := 0) rfl rfl ?_
            refine lv_aload_n S.1 S.2.1 dX11_waiting_78 rfl (lv_at hl 0 rfl) ?_
            refine lv_iload_n S.1 S.2.1 dX11_waiting_79 rfl (lv_at hl 2 rfl) ?_
            refine lv_iconst (v := (nI 3)) S.1 S.2.1 dX11_waiting_80 (by decide) ?_
            refine mz_V S hG hM hS cf_10 k9 (As := [.int x2, .int (nI 3)]) (rest := [.int u21, .int x3]) (c_X11_of h) yf_X11_of tw_1622 tw_1624 ts_36 ⟨Nat.le_of_ble_eq_true rfl, Nat.le_of_ble_eq_true rfl⟩ ⟨(Nat.le_of_ble_eq_true rfl), (Nat.le_of_ble_eq_true rfl)⟩ rfl hl.1 rfl (Nat.le_of_ble_eq_true rfl) dX11_waiting_81 (fun v9 μ9 H locs hp hM hS => ?_)
            obtain ⟨u22, rfl, e9, h⟩ := hp
            rw [e9] at hM
            refine W.cs (cells' := 0) (slots' := 0) rfl rfl ?_
            refine lv_icmp_ne (tgt := 97) S.1 S.2.1 dX11_waiting_84 (by decide) (fun c23 => ?_) (fun c23 => ?_)
            · have h := h.1 c23
              exact hB97 K2 kK2 (w_X11_waiting_l31 G μ o Q K2 n) ih x1 x2 x4 x3 H locs ls hM hS (lv_sub hl [0, 1, 2, 4] rfl) h
            · have h := h.2 c23
              refine lv_iload S.1 S.2.1 dX11_waiting_87 (lv_at hl 4 rfl) ?_
              refine lv_iload_n S.1 S.2.1 dX11_waiting_89 rfl (lv_at hl 2 rfl) ?_
              refine lv_icmp_ge (tgt := 97) S.1 S.2.1 dX11_waiting_90 (by decide) (fun c24 => ?_) (fun c24 => ?_)
              · have h := h.1 c24
                exact hB97 K2 kK2 (w_X11_waiting_l31 G μ o Q K2 n) ih x1 x2 x4 x3 H locs ls hM hS (lv_sub hl [0, 1, 2, 4] rfl) h
              · have h := h.2 c24
                exact hB93 K2 kK2 (w_X11_waiting_l31 G μ o Q K2 n) ih x1 x2 x4 x3 H locs ls hM hS (lv_sub hl [0, 1, 2, 4] rfl) h
  have hB2 : ∀ (n : Nat) (x1 : Int32) (x2 : Int32) (H : Heap) (locs : List Loc) (ls : Array Slot), Mm G μ H → va_S (Ah G) s.heap H locs → lv_has ls 5 [(0, .ref o), (1, .int x1), (2, .int x2)] → w_X11_waiting_l2 G μ o Q  n x1 x2 → W p l e { frames := 1, cells := 0, slots := 0, locals := 22 } s m args below meth c H locs 0 0 (MQ below (mQ G (pI (fun r μ' => μ' = μ ∧ Q r))) args s 0 0 (Ah G)) (F0 m 2 ls []) := by
    intro  n
    induction n with
    | zero =>
      intro x1 x2 H locs ls hM hS hl h
      exact False.elim h
    | succ n ih =>
      intro x1 x2 H locs ls hM hS hl h
      have h : w_X11_waiting_b2 G μ o Q  (w_X11_waiting_l2 G μ o Q  n) x1 x2 := h
      unfold w_X11_waiting_b2 at h
      refine lv_iload_n S.1 S.2.1 dX11_waiting_2 rfl (lv_at hl 2 rfl) ?_
      refine lv_aload_n S.1 S.2.1 dX11_waiting_3 rfl (lv_at hl 0 rfl) ?_
      obtain ⟨k1, h⟩ := h
      refine mz_getr S hG hM cf_10 fd_321 tw_1483 dX11_waiting_4 k1 ?_
      refine lv_iconst (v := (nI 2)) S.1 S.2.1 dX11_waiting_7 (by decide) ?_
      obtain ⟨a2, e3, h⟩ := h
      refine mz_o1 e3 ?_
      obtain ⟨k4, h⟩ := h
      obtain ⟨b5, h⟩ := h
      refine mz_iald S hG hM dX11_waiting_8 k4 b5 ?_
      refine lv_icmp_ge (tgt := 119) S.1 S.2.1 dX11_waiting_9 (by decide) (fun c6 => ?_) (fun c6 => ?_)
      · have h := h.1 c6
        refine lv_iconst (v := (-1)) S.1 S.2.1 dX11_waiting_119 (by decide) ?_
        exact mz_iret S hr hlk hM hS rfl (Nat.le_of_ble_eq_true rfl) (Nat.le_of_ble_eq_true rfl) dX11_waiting_120 ⟨_, rfl, rfl, h⟩
      · have h := h.2 c6
        refine lv_aload_n S.1 S.2.1 dX11_waiting_12 rfl (lv_at hl 0 rfl) ?_
        refine lv_iload_n S.1 S.2.1 dX11_waiting_13 rfl (lv_at hl 2 rfl) ?_
        refine lv_iconst (v := (nI 4)) S.1 S.2.1 dX11_waiting_14 (by decide) ?_
        refine mz_V S hG hM hS cf_10 k1 (As := [.int x2, .int (nI 4)]) (rest := []) (c_X11_of h) yf_X11_of tw_1622 tw_1624 ts_36 ⟨Nat.le_of_ble_eq_true rfl, Nat.le_of_ble_eq_true rfl⟩ ⟨(Nat.le_of_ble_eq_true rfl), (Nat.le_of_ble_eq_true rfl)⟩ rfl hl.1 rfl (Nat.le_of_ble_eq_true rfl) dX11_waiting_15 (fun v9 μ9 H locs hp hM hS => ?_)
        obtain ⟨u7, rfl, e9, h⟩ := hp
        rw [e9] at hM
        refine W.cs (cells' := 0) (slots' := 0) rfl rfl ?_
        refine lv_bipush (v := (nI 119)) S.1 S.2.1 dX11_waiting_18 (by decide) ?_
        refine lv_icmp_eq (tgt := 26) S.1 S.2.1 dX11_waiting_20 (by decide) (fun c8 => ?_) (fun c8 => ?_)
        · have h := h.1 c8
          refine lv_iconst (v := (nI 0)) S.1 S.2.1 dX11_waiting_26 (by decide) ?_
          refine lv_istore_n (lv' := [(3, .int (nI 0)), (0, .ref o), (1, .int x1), (2, .int x2)]) S.1 S.2.1 dX11_waiting_27 rfl hl (by decide) rfl (fun ls hl => ?_)
          refine lv_iconst (v := (nI 0)) S.1 S.2.1 dX11_waiting_28 (by decide) ?_
          refine lv_istore (lv' := [(4, .int (nI 0)), (3, .int (nI 0)), (0, .ref o), (1, .int x1), (2, .int x2)]) S.1 S.2.1 dX11_waiting_29 hl (by decide) rfl (fun ls hl => ?_)
          obtain ⟨n9, h⟩ := h
          exact hB31 (w_X11_waiting_l2 G μ o Q  n) ih n9 x1 x2 (nI 0) (nI 0) H locs ls hM hS (lv_sub hl [2, 3, 4, 1, 0] rfl) h
        · have h := h.2 c8
          refine lv_goto (tgt := 113) S.1 S.2.1 dX11_waiting_23 (by decide) ?_
          exact hB113 (w_X11_waiting_l2 G μ o Q  n) ih x1 x2 H locs ls hM hS (lv_sub hl [0, 1, 2] rfl) h
  intro H locs ls hM hS hl
  have hl : lv_has ls 5 [(0, .ref o), (1, .int x1)] := hl
  unfold w_X11_waiting at h
  refine lv_iconst (v := (nI 0)) S.1 S.2.1 dX11_waiting_0 (by decide) ?_
  refine lv_istore_n (lv' := [(2, .int (nI 0)), (0, .ref o), (1, .int x1)]) S.1 S.2.1 dX11_waiting_1 rfl hl (by decide) rfl (fun ls hl => ?_)
  obtain ⟨n9, h⟩ := h
  exact hB2  n9 x1 (nI 0) H locs ls hM hS (lv_sub hl [1, 2, 0] rfl) h
set_option maxRecDepth 100000 in
set_option maxHeartbeats 4000000 in
theorem c_X11_minute {l : Launch} {G : mgT} {μ : mmT} {o : Nat} {Q : mmT → Prop} (h : w_X11_minute G μ o Q) : MC G l yX11_minute cX11_minute 3 none { frames := 3, cells := 0, slots := 0, locals := 72 } [.ref o] μ (pV Q) := by
  refine mz_MC (by decide +kernel) (Nat.le_of_ble_eq_true rfl) (fun p e s m args below meth c S hG hr hlk hnm => ?_)
  have hB306 : ∀ (K194 : Int32 → mmT → Prop) (kK194 : ∀ (x1 : Int32) (μ : mmT) (H : Heap) (locs : List Loc) (ls : Array Slot), Mm G μ H → va_S (Ah G) s.heap H locs → lv_has ls 3 [(0, .ref o), (1, .int x1)] → K194 x1 μ → W p l e { frames := 3, cells := 0, slots := 0, locals := 72 } s m args below meth c H locs 0 0 (MQ below (mQ G (pV Q)) args s 0 0 (Ah G)) (F0 m 194 ls [])) (x1 : Int32) (μ : mmT) (H : Heap) (locs : List Loc) (ls : Array Slot), Mm G μ H → va_S (Ah G) s.heap H locs → lv_has ls 3 [(0, .ref o), (1, .int x1)] → w_X11_minute_b306 G o Q K194 x1 μ → W p l e { frames := 3, cells := 0, slots := 0, locals := 72 } s m args below meth c H locs 0 0 (MQ below (mQ G (pV Q)) args s 0 0 (Ah G)) (F0 m 306 ls []) := by
    intro K194 kK194 x1 μ H locs ls hM hS hl h
    unfold w_X11_minute_b306 at h
    refine lv_iinc (v := (x1 + nI 1)) (lv' := [(1, .int (x1 + nI 1)), (0, .ref o)]) S.1 S.2.1 dX11_minute_306 hl (k := 1) rfl rfl (by decide) rfl (fun ls hl => ?_)
    refine lv_goto (tgt := 194) S.1 S.2.1 dX11_minute_309 (by decide) ?_
    exact kK194 (x1 + nI 1) μ H locs ls hM hS (lv_sub hl [1, 0] rfl) h
  have hB304 : ∀ (K194 : Int32 → mmT → Prop) (kK194 : ∀ (x1 : Int32) (μ : mmT) (H : Heap) (locs : List Loc) (ls : Array Slot), Mm G μ H → va_S (Ah G) s.heap H locs → lv_has ls 3 [(0, .ref o), (1, .int x1)] → K194 x1 μ → W p l e { frames := 3, cells := 0, slots := 0, locals := 72 } s m args below meth c H locs 0 0 (MQ below (mQ G (pV Q)) args s 0 0 (Ah G)) (F0 m 194 ls [])) (x1 : Int32) (s0 : Option Nat) (s1 : Int32) (s2 : Int32) (s3 : Int32) (μ : mmT) (H : Heap) (locs : List Loc) (ls : Array Slot), Mm G μ H → va_S (Ah G) s.heap H locs → lv_has ls 3 [(0, .ref o), (1, .int x1)] → w_X11_minute_b304 G o Q K194 x1 s0 s1 s2 s3 μ → W p l e { frames := 3, cells := 0, slots := 0, locals := 72 } s m args below meth c H locs 0 0 (MQ below (mQ G (pV Q)) args s 0 0 (Ah G)) (F0 m 304 ls [.int s3, .int s2, .int s1, va_rf s0]) := by
    intro K194 kK194 x1 s0 s1 s2 s3 μ H locs ls hM hS hl h
    unfold w_X11_minute_b304 at h
    refine lv_iadd S.1 S.2.1 dX11_minute_304 ?_
    obtain ⟨a43, e44, h⟩ := h
    refine mz_o2 e44 ?_
    obtain ⟨k45, h⟩ := h
    obtain ⟨b46, h⟩ := h
    refine mz_iast S hG hM hS dX11_minute_305 k45 b46 (fun H locs hM hS hz9 => ?_)
    exact hB306 K194 kK194 x1 (sA μ a43 s1.toNatClampNeg (s2 + s3)) H locs ls hM hS (lv_sub hl [0, 1] rfl) h
  have hB228 : ∀ (K194 : Int32 → mmT → Prop) (kK194 : ∀ (x1 : Int32) (μ : mmT) (H : Heap) (locs : List Loc) (ls : Array Slot), Mm G μ H → va_S (Ah G) s.heap H locs → lv_has ls 3 [(0, .ref o), (1, .int x1)] → K194 x1 μ → W p l e { frames := 3, cells := 0, slots := 0, locals := 72 } s m args below meth c H locs 0 0 (MQ below (mQ G (pV Q)) args s 0 0 (Ah G)) (F0 m 194 ls [])) (x1 : Int32) (s0 : Int32) (μ : mmT) (H : Heap) (locs : List Loc) (ls : Array Slot), Mm G μ H → va_S (Ah G) s.heap H locs → lv_has ls 3 [(0, .ref o), (1, .int x1)] → w_X11_minute_b228 G o Q K194 x1 s0 μ → W p l e { frames := 3, cells := 0, slots := 0, locals := 72 } s m args below meth c H locs 0 0 (MQ below (mQ G (pV Q)) args s 0 0 (Ah G)) (F0 m 228 ls [.int s0]) := by
    intro K194 kK194 x1 s0 μ H locs ls hM hS hl h
    unfold w_X11_minute_b228 at h
    refine lv_istore_n (lv' := [(2, .int s0), (0, .ref o), (1, .int x1)]) S.1 S.2.1 dX11_minute_228 rfl hl (by decide) rfl (fun ls hl => ?_)
    refine lv_iload_n S.1 S.2.1 dX11_minute_229 rfl (lv_at hl 0 rfl) ?_
    refine lv_iconst (v := (-1)) S.1 S.2.1 dX11_minute_230 (by decide) ?_
    refine lv_icmp_ne (tgt := 237) S.1 S.2.1 dX11_minute_231 (by decide) (fun c27 => ?_) (fun c27 => ?_)
    · have h := h.1 c27
      refine lv_aload_n S.1 S.2.1 dX11_minute_237 rfl (lv_at hl 1 rfl) ?_
      refine lv_iload_n S.1 S.2.1 dX11_minute_238 rfl (lv_at hl 0 rfl) ?_
      refine lv_iconst (v := (nI 4)) S.1 S.2.1 dX11_minute_239 (by decide) ?_
      refine lv_bipush (v := (nI 102)) S.1 S.2.1 dX11_minute_240 (by decide) ?_
      obtain ⟨k28, h⟩ := h
      refine mz_V S hG hM hS cf_10 k28 (As := [.int s0, .int (nI 4), .int (nI 102)]) (rest := []) (c_X11_sets h) yf_X11_sets tw_1602 tw_1604 ts_32 ⟨Nat.le_of_ble_eq_true rfl, Nat.le_of_ble_eq_true rfl⟩ ⟨(Nat.le_of_ble_eq_true rfl), (Nat.le_of_ble_eq_true rfl)⟩ rfl hl.1 rfl (Nat.le_of_ble_eq_true rfl) dX11_minute_242 (fun v9 μ29 H locs hp hM hS => ?_)
      obtain ⟨rfl, h⟩ := hp
      refine W.cs (cells' := 0) (slots' := 0) rfl rfl ?_
      refine lv_aload_n S.1 S.2.1 dX11_minute_245 rfl (lv_at hl 1 rfl) ?_
      obtain ⟨k30, h⟩ := h
      refine mz_getr S hG hM cf_10 fd_321 tw_1483 dX11_minute_246 k30 ?_
      refine lv_sipush (v := (nI 138)) S.1 S.2.1 dX11_minute_249 (by decide) ?_
      refine lv_iconst (v := (nI 2)) S.1 S.2.1 dX11_minute_252 (by decide) ?_
      refine lv_iload_n S.1 S.2.1 dX11_minute_253 rfl (lv_at hl 2 rfl) ?_
      refine lv_imul S.1 S.2.1 dX11_minute_254 ?_
      refine lv_iadd S.1 S.2.1 dX11_minute_255 ?_
      refine lv_aload_n S.1 S.2.1 dX11_minute_256 rfl (lv_at hl 1 rfl) ?_
      refine lv_iload_n S.1 S.2.1 dX11_minute_257 rfl (lv_at hl 0 rfl) ?_
      refine lv_iconst (v := (nI 0)) S.1 S.2.1 dX11_minute_258 (by decide) ?_
      refine mz_V S hG hM hS cf_10 k30 (As := [.int s0, .int (nI 0)]) (rest := [.int ((nI 138) + ((nI 2) * x1)), va_rf (mR μ29 321 o)]) (c_X11_of h) yf_X11_of tw_1622 tw_1624 ts_36 ⟨Nat.le_of_ble_eq_true rfl, Nat.le_of_ble_eq_true rfl⟩ ⟨(Nat.le_of_ble_eq_true rfl), (Nat.le_of_ble_eq_true rfl)⟩ rfl hl.1 rfl (by simp [mz_cat, mz_cr, mz_ci, mz_cl, mz_cf, mz_cd, mz_cn]) dX11_minute_259 (fun v9 μ9 H locs hp hM hS => ?_)
      obtain ⟨u31, rfl, e9, h⟩ := hp
      rw [e9] at hM
      refine W.cs (cells' := 0) (slots' := 0) rfl rfl ?_
      refine lv_iconst (v := (nI 1)) S.1 S.2.1 dX11_minute_262 (by decide) ?_
      refine lv_iadd S.1 S.2.1 dX11_minute_263 ?_
      obtain ⟨a32, e33, h⟩ := h
      refine mz_o2 e33 ?_
      obtain ⟨k34, h⟩ := h
      obtain ⟨b35, h⟩ := h
      refine mz_iast S hG hM hS dX11_minute_264 k34 b35 (fun H locs hM hS hz9 => ?_)
      refine lv_aload_n S.1 S.2.1 dX11_minute_265 rfl (lv_at hl 1 rfl) ?_
      refine mz_getr S hG hM cf_10 fd_321 tw_1483 dX11_minute_266 k30 ?_
      refine lv_sipush (v := (nI 138)) S.1 S.2.1 dX11_minute_269 (by decide) ?_
      refine lv_iconst (v := (nI 2)) S.1 S.2.1 dX11_minute_272 (by decide) ?_
      refine lv_iload_n S.1 S.2.1 dX11_minute_273 rfl (lv_at hl 2 rfl) ?_
      refine lv_imul S.1 S.2.1 dX11_minute_274 ?_
      refine lv_iadd S.1 S.2.1 dX11_minute_275 ?_
      refine lv_iconst (v := (nI 1)) S.1 S.2.1 dX11_minute_276 (by decide) ?_
      refine lv_iadd S.1 S.2.1 dX11_minute_277 ?_
      refine lv_aload_n S.1 S.2.1 dX11_minute_278 rfl (lv_at hl 1 rfl) ?_
      refine lv_aload_n S.1 S.2.1 dX11_minute_279 rfl (lv_at hl 1 rfl) ?_
      refine lv_iload_n S.1 S.2.1 dX11_minute_280 rfl (lv_at hl 0 rfl) ?_
      refine lv_iconst (v := (nI 1)) S.1 S.2.1 dX11_minute_281 (by decide) ?_
      refine mz_V S hG hM hS cf_10 k30 (As := [.int s0, .int (nI 1)]) (rest := [.ref o, .int (((nI 138) + ((nI 2) * x1)) + (nI 1)), va_rf (mR (sA μ29 a32 ((nI 138) + ((nI 2) * x1)).toNatClampNeg (u31 + (nI 1))) 321 o)]) (c_X11_of h) yf_X11_of tw_1622 tw_1624 ts_36 ⟨Nat.le_of_ble_eq_true rfl, Nat.le_of_ble_eq_true rfl⟩ ⟨(Nat.le_of_ble_eq_true rfl), (Nat.le_of_ble_eq_true rfl)⟩ rfl hl.1 rfl (by simp [mz_cat, mz_cr, mz_ci, mz_cl, mz_cf, mz_cd, mz_cn]) dX11_minute_282 (fun v9 μ9 H locs hp hM hS => ?_)
      obtain ⟨u36, rfl, e9, h⟩ := hp
      rw [e9] at hM
      refine W.cs (cells' := 0) (slots' := 0) rfl rfl ?_
      refine lv_iconst (v := (nI 0)) S.1 S.2.1 dX11_minute_285 (by decide) ?_
      refine mz_V S hG hM hS cf_10 k30 (As := [.int u36, .int (nI 0)]) (rest := [.int (((nI 138) + ((nI 2) * x1)) + (nI 1)), va_rf (mR (sA μ29 a32 ((nI 138) + ((nI 2) * x1)).toNatClampNeg (u31 + (nI 1))) 321 o)]) (c_X11_nest h) yf_X11_nest tw_1614 tw_1616 ts_34 ⟨Nat.le_of_ble_eq_true rfl, Nat.le_of_ble_eq_true rfl⟩ ⟨(Nat.le_of_ble_eq_true rfl), (Nat.le_of_ble_eq_true rfl)⟩ rfl hl.1 rfl (by simp [mz_cat, mz_cr, mz_ci, mz_cl, mz_cf, mz_cd, mz_cn]) dX11_minute_286 (fun v9 μ9 H locs hp hM hS => ?_)
      obtain ⟨u37, rfl, e9, h⟩ := hp
      rw [e9] at hM
      refine W.cs (cells' := 0) (slots' := 0) rfl rfl ?_
      refine lv_aload_n S.1 S.2.1 dX11_minute_289 rfl (lv_at hl 1 rfl) ?_
      refine mz_getr S hG hM cf_10 fd_321 tw_1483 dX11_minute_290 k30 ?_
      refine lv_iconst (v := (nI 5)) S.1 S.2.1 dX11_minute_293 (by decide) ?_
      obtain ⟨a38, e39, h⟩ := h
      refine mz_o1 e39 ?_
      obtain ⟨k40, h⟩ := h
      obtain ⟨b41, h⟩ := h
      refine mz_iald S hG hM dX11_minute_294 k40 b41 ?_
      refine lv_iconst (v := (nI 5)) S.1 S.2.1 dX11_minute_295 (by decide) ?_
      refine lv_icmp_le (tgt := 303) S.1 S.2.1 dX11_minute_296 (by decide) (fun c42 => ?_) (fun c42 => ?_)
      · have h := h.1 c42
        refine lv_iconst (v := (nI 0)) S.1 S.2.1 dX11_minute_303 (by decide) ?_
        exact hB304 K194 kK194 x1 (mR (sA μ29 a32 ((nI 138) + ((nI 2) * x1)).toNatClampNeg (u31 + (nI 1))) 321 o) (((nI 138) + ((nI 2) * x1)) + (nI 1)) u37 (nI 0) (sA μ29 a32 ((nI 138) + ((nI 2) * x1)).toNatClampNeg (u31 + (nI 1))) H locs ls hM hS (lv_sub hl [1, 2] rfl) h
      · have h := h.2 c42
        refine lv_iconst (v := (nI 1)) S.1 S.2.1 dX11_minute_299 (by decide) ?_
        refine lv_goto (tgt := 304) S.1 S.2.1 dX11_minute_300 (by decide) ?_
        exact hB304 K194 kK194 x1 (mR (sA μ29 a32 ((nI 138) + ((nI 2) * x1)).toNatClampNeg (u31 + (nI 1))) 321 o) (((nI 138) + ((nI 2) * x1)) + (nI 1)) u37 (nI 1) (sA μ29 a32 ((nI 138) + ((nI 2) * x1)).toNatClampNeg (u31 + (nI 1))) H locs ls hM hS (lv_sub hl [1, 2] rfl) h
    · have h := h.2 c27
      refine lv_goto (tgt := 306) S.1 S.2.1 dX11_minute_234 (by decide) ?_
      exact hB306 K194 kK194 x1 μ H locs ls hM hS (lv_sub hl [1, 2] rfl) h
  have hB194 : ∀ (n : Nat) (x1 : Int32) (μ : mmT) (H : Heap) (locs : List Loc) (ls : Array Slot), Mm G μ H → va_S (Ah G) s.heap H locs → lv_has ls 3 [(0, .ref o), (1, .int x1)] → w_X11_minute_l194 G o Q  n x1 μ → W p l e { frames := 3, cells := 0, slots := 0, locals := 72 } s m args below meth c H locs 0 0 (MQ below (mQ G (pV Q)) args s 0 0 (Ah G)) (F0 m 194 ls []) := by
    intro  n
    induction n with
    | zero =>
      intro x1 μ H locs ls hM hS hl h
      exact False.elim h
    | succ n ih =>
      intro x1 μ H locs ls hM hS hl h
      have h : w_X11_minute_b194 G o Q  (w_X11_minute_l194 G o Q  n) x1 μ := h
      unfold w_X11_minute_b194 at h
      refine lv_iload_n S.1 S.2.1 dX11_minute_194 rfl (lv_at hl 1 rfl) ?_
      refine lv_aload_n S.1 S.2.1 dX11_minute_195 rfl (lv_at hl 0 rfl) ?_
      obtain ⟨k19, h⟩ := h
      refine mz_getr S hG hM cf_10 fd_321 tw_1483 dX11_minute_196 k19 ?_
      refine lv_iconst (v := (nI 1)) S.1 S.2.1 dX11_minute_199 (by decide) ?_
      obtain ⟨a20, e21, h⟩ := h
      refine mz_o1 e21 ?_
      obtain ⟨k22, h⟩ := h
      obtain ⟨b23, h⟩ := h
      refine mz_iald S hG hM dX11_minute_200 k22 b23 ?_
      refine lv_icmp_ge (tgt := 312) S.1 S.2.1 dX11_minute_201 (by decide) (fun c24 => ?_) (fun c24 => ?_)
      · have h := h.1 c24
        exact mz_vret S hr hlk hM hS (Nat.le_of_ble_eq_true rfl) (Nat.le_of_ble_eq_true rfl) dX11_minute_312 ⟨rfl, h⟩
      · have h := h.2 c24
        refine lv_aload_n S.1 S.2.1 dX11_minute_204 rfl (lv_at hl 0 rfl) ?_
        refine mz_getr S hG hM cf_10 fd_321 tw_1483 dX11_minute_205 k19 ?_
        refine lv_sipush (v := (nI 138)) S.1 S.2.1 dX11_minute_208 (by decide) ?_
        refine lv_iconst (v := (nI 2)) S.1 S.2.1 dX11_minute_211 (by decide) ?_
        refine lv_iload_n S.1 S.2.1 dX11_minute_212 rfl (lv_at hl 1 rfl) ?_
        refine lv_imul S.1 S.2.1 dX11_minute_213 ?_
        refine lv_iadd S.1 S.2.1 dX11_minute_214 ?_
        refine mz_o1 e21 ?_
        obtain ⟨b25, h⟩ := h
        refine mz_iald S hG hM dX11_minute_215 k22 b25 ?_
        refine lv_if_ne (tgt := 227) S.1 S.2.1 dX11_minute_216 (by decide) (fun c26 => ?_) (fun c26 => ?_)
        · have h := h.1 c26
          refine lv_iconst (v := (-1)) S.1 S.2.1 dX11_minute_227 (by decide) ?_
          exact hB228 (w_X11_minute_l194 G o Q  n) ih x1 (-1) μ H locs ls hM hS (lv_sub hl [0, 1] rfl) h
        · have h := h.2 c26
          refine lv_aload_n S.1 S.2.1 dX11_minute_219 rfl (lv_at hl 0 rfl) ?_
          refine lv_iconst (v := (nI 0)) S.1 S.2.1 dX11_minute_220 (by decide) ?_
          refine mz_V S hG hM hS cf_10 k19 (As := [.int (nI 0)]) (rest := []) (c_X11_waiting h) yf_X11_waiting tw_1682 tw_1684 ts_47 ⟨Nat.le_of_ble_eq_true rfl, Nat.le_of_ble_eq_true rfl⟩ ⟨(Nat.le_of_ble_eq_true rfl), (Nat.le_of_ble_eq_true rfl)⟩ rfl hl.1 rfl (Nat.le_of_ble_eq_true rfl) dX11_minute_221 (fun v9 μ9 H locs hp hM hS => ?_)
          obtain ⟨u47, rfl, e9, h⟩ := hp
          rw [e9] at hM
          refine W.cs (cells' := 0) (slots' := 0) rfl rfl ?_
          refine lv_goto (tgt := 228) S.1 S.2.1 dX11_minute_224 (by decide) ?_
          exact hB228 (w_X11_minute_l194 G o Q  n) ih x1 u47 μ H locs ls hM hS (lv_sub hl [0, 1] rfl) h
  have hB186 : ∀ (K109 : Int32 → mmT → Prop) (kK109 : ∀ (x1 : Int32) (μ : mmT) (H : Heap) (locs : List Loc) (ls : Array Slot), Mm G μ H → va_S (Ah G) s.heap H locs → lv_has ls 3 [(0, .ref o), (1, .int x1)] → K109 x1 μ → W p l e { frames := 3, cells := 0, slots := 0, locals := 72 } s m args below meth c H locs 0 0 (MQ below (mQ G (pV Q)) args s 0 0 (Ah G)) (F0 m 109 ls [])) (x1 : Int32) (μ : mmT) (H : Heap) (locs : List Loc) (ls : Array Slot), Mm G μ H → va_S (Ah G) s.heap H locs → lv_has ls 3 [(0, .ref o), (1, .int x1)] → w_X11_minute_b186 G o Q K109 x1 μ → W p l e { frames := 3, cells := 0, slots := 0, locals := 72 } s m args below meth c H locs 0 0 (MQ below (mQ G (pV Q)) args s 0 0 (Ah G)) (F0 m 186 ls []) := by
    intro K109 kK109 x1 μ H locs ls hM hS hl h
    unfold w_X11_minute_b186 at h
    refine lv_iinc (v := (x1 + nI 1)) (lv' := [(1, .int (x1 + nI 1)), (0, .ref o)]) S.1 S.2.1 dX11_minute_186 hl (k := 1) rfl rfl (by decide) rfl (fun ls hl => ?_)
    refine lv_goto (tgt := 109) S.1 S.2.1 dX11_minute_189 (by decide) ?_
    exact kK109 (x1 + nI 1) μ H locs ls hM hS (lv_sub hl [1, 0] rfl) h
  have hB109 : ∀ (n : Nat) (x1 : Int32) (μ : mmT) (H : Heap) (locs : List Loc) (ls : Array Slot), Mm G μ H → va_S (Ah G) s.heap H locs → lv_has ls 3 [(0, .ref o), (1, .int x1)] → w_X11_minute_l109 G o Q  n x1 μ → W p l e { frames := 3, cells := 0, slots := 0, locals := 72 } s m args below meth c H locs 0 0 (MQ below (mQ G (pV Q)) args s 0 0 (Ah G)) (F0 m 109 ls []) := by
    intro  n
    induction n with
    | zero =>
      intro x1 μ H locs ls hM hS hl h
      exact False.elim h
    | succ n ih =>
      intro x1 μ H locs ls hM hS hl h
      have h : w_X11_minute_b109 G o Q  (w_X11_minute_l109 G o Q  n) x1 μ := h
      unfold w_X11_minute_b109 at h
      refine lv_iload_n S.1 S.2.1 dX11_minute_109 rfl (lv_at hl 1 rfl) ?_
      refine lv_aload_n S.1 S.2.1 dX11_minute_110 rfl (lv_at hl 0 rfl) ?_
      obtain ⟨k13, h⟩ := h
      refine mz_getr S hG hM cf_10 fd_321 tw_1483 dX11_minute_111 k13 ?_
      refine lv_iconst (v := (nI 2)) S.1 S.2.1 dX11_minute_114 (by decide) ?_
      obtain ⟨a14, e15, h⟩ := h
      refine mz_o1 e15 ?_
      obtain ⟨k16, h⟩ := h
      obtain ⟨b17, h⟩ := h
      refine mz_iald S hG hM dX11_minute_115 k16 b17 ?_
      refine lv_icmp_ge (tgt := 192) S.1 S.2.1 dX11_minute_116 (by decide) (fun c18 => ?_) (fun c18 => ?_)
      · have h := h.1 c18
        refine lv_iconst (v := (nI 0)) S.1 S.2.1 dX11_minute_192 (by decide) ?_
        refine lv_istore_n (lv' := [(1, .int (nI 0)), (0, .ref o)]) S.1 S.2.1 dX11_minute_193 rfl hl (by decide) rfl (fun ls hl => ?_)
        obtain ⟨n9, h⟩ := h
        exact hB194  n9 (nI 0) μ H locs ls hM hS (lv_sub hl [1, 0] rfl) h
      · have h := h.2 c18
        refine lv_aload_n S.1 S.2.1 dX11_minute_119 rfl (lv_at hl 0 rfl) ?_
        refine lv_iload_n S.1 S.2.1 dX11_minute_120 rfl (lv_at hl 1 rfl) ?_
        refine lv_iconst (v := (nI 4)) S.1 S.2.1 dX11_minute_121 (by decide) ?_
        refine mz_V S hG hM hS cf_10 k13 (As := [.int x1, .int (nI 4)]) (rest := []) (c_X11_of h) yf_X11_of tw_1622 tw_1624 ts_36 ⟨Nat.le_of_ble_eq_true rfl, Nat.le_of_ble_eq_true rfl⟩ ⟨(Nat.le_of_ble_eq_true rfl), (Nat.le_of_ble_eq_true rfl)⟩ rfl hl.1 rfl (Nat.le_of_ble_eq_true rfl) dX11_minute_122 (fun v9 μ9 H locs hp hM hS => ?_)
        obtain ⟨u48, rfl, e9, h⟩ := hp
        rw [e9] at hM
        refine W.cs (cells' := 0) (slots' := 0) rfl rfl ?_
        refine lv_bipush (v := (nI 110)) S.1 S.2.1 dX11_minute_125 (by decide) ?_
        refine lv_icmp_eq (tgt := 133) S.1 S.2.1 dX11_minute_127 (by decide) (fun c49 => ?_) (fun c49 => ?_)
        · have h := h.1 c49
          refine lv_aload_n S.1 S.2.1 dX11_minute_133 rfl (lv_at hl 0 rfl) ?_
          refine lv_iload_n S.1 S.2.1 dX11_minute_134 rfl (lv_at hl 1 rfl) ?_
          refine lv_bipush (v := (nI 6)) S.1 S.2.1 dX11_minute_135 (by decide) ?_
          refine mz_V S hG hM hS cf_10 k13 (As := [.int x1, .int (nI 6)]) (rest := []) (c_X11_of h) yf_X11_of tw_1622 tw_1624 ts_36 ⟨Nat.le_of_ble_eq_true rfl, Nat.le_of_ble_eq_true rfl⟩ ⟨(Nat.le_of_ble_eq_true rfl), (Nat.le_of_ble_eq_true rfl)⟩ rfl hl.1 rfl (Nat.le_of_ble_eq_true rfl) dX11_minute_137 (fun v9 μ9 H locs hp hM hS => ?_)
          obtain ⟨u50, rfl, e9, h⟩ := hp
          rw [e9] at hM
          refine W.cs (cells' := 0) (slots' := 0) rfl rfl ?_
          refine lv_iconst (v := (nI 1)) S.1 S.2.1 dX11_minute_140 (by decide) ?_
          refine lv_icmp_ne (tgt := 155) S.1 S.2.1 dX11_minute_141 (by decide) (fun c51 => ?_) (fun c51 => ?_)
          · have h := h.1 c51
            refine lv_aload_n S.1 S.2.1 dX11_minute_155 rfl (lv_at hl 0 rfl) ?_
            refine lv_iload_n S.1 S.2.1 dX11_minute_156 rfl (lv_at hl 1 rfl) ?_
            refine lv_iconst (v := (nI 5)) S.1 S.2.1 dX11_minute_157 (by decide) ?_
            refine lv_aload_n S.1 S.2.1 dX11_minute_158 rfl (lv_at hl 0 rfl) ?_
            refine lv_iload_n S.1 S.2.1 dX11_minute_159 rfl (lv_at hl 1 rfl) ?_
            refine lv_iconst (v := (nI 5)) S.1 S.2.1 dX11_minute_160 (by decide) ?_
            refine mz_V S hG hM hS cf_10 k13 (As := [.int x1, .int (nI 5)]) (rest := [.int (nI 5), .int x1, .ref o]) (c_X11_of h) yf_X11_of tw_1622 tw_1624 ts_36 ⟨Nat.le_of_ble_eq_true rfl, Nat.le_of_ble_eq_true rfl⟩ ⟨(Nat.le_of_ble_eq_true rfl), (Nat.le_of_ble_eq_true rfl)⟩ rfl hl.1 rfl (Nat.le_of_ble_eq_true rfl) dX11_minute_161 (fun v9 μ9 H locs hp hM hS => ?_)
            obtain ⟨u52, rfl, e9, h⟩ := hp
            rw [e9] at hM
            refine W.cs (cells' := 0) (slots' := 0) rfl rfl ?_
            refine lv_iconst (v := (nI 1)) S.1 S.2.1 dX11_minute_164 (by decide) ?_
            refine lv_isub S.1 S.2.1 dX11_minute_165 ?_
            refine mz_V S hG hM hS cf_10 k13 (As := [.int x1, .int (nI 5), .int (u52 - (nI 1))]) (rest := []) (c_X11_sets h) yf_X11_sets tw_1602 tw_1604 ts_32 ⟨Nat.le_of_ble_eq_true rfl, Nat.le_of_ble_eq_true rfl⟩ ⟨(Nat.le_of_ble_eq_true rfl), (Nat.le_of_ble_eq_true rfl)⟩ rfl hl.1 rfl (Nat.le_of_ble_eq_true rfl) dX11_minute_166 (fun v9 μ53 H locs hp hM hS => ?_)
            obtain ⟨rfl, h⟩ := hp
            refine W.cs (cells' := 0) (slots' := 0) rfl rfl ?_
            refine lv_aload_n S.1 S.2.1 dX11_minute_169 rfl (lv_at hl 0 rfl) ?_
            refine lv_iload_n S.1 S.2.1 dX11_minute_170 rfl (lv_at hl 1 rfl) ?_
            refine lv_iconst (v := (nI 5)) S.1 S.2.1 dX11_minute_171 (by decide) ?_
            obtain ⟨k54, h⟩ := h
            refine mz_V S hG hM hS cf_10 k54 (As := [.int x1, .int (nI 5)]) (rest := []) (c_X11_of h) yf_X11_of tw_1622 tw_1624 ts_36 ⟨Nat.le_of_ble_eq_true rfl, Nat.le_of_ble_eq_true rfl⟩ ⟨(Nat.le_of_ble_eq_true rfl), (Nat.le_of_ble_eq_true rfl)⟩ rfl hl.1 rfl (Nat.le_of_ble_eq_true rfl) dX11_minute_172 (fun v9 μ9 H locs hp hM hS => ?_)
            obtain ⟨u55, rfl, e9, h⟩ := hp
            rw [e9] at hM
            refine W.cs (cells' := 0) (slots' := 0) rfl rfl ?_
            refine lv_if_ne (tgt := 186) S.1 S.2.1 dX11_minute_175 (by decide) (fun c56 => ?_) (fun c56 => ?_)
            · have h := h.1 c56
              exact hB186 (w_X11_minute_l109 G o Q  n) ih x1 μ53 H locs ls hM hS (lv_sub hl [0, 1] rfl) h
            · have h := h.2 c56
              refine lv_aload_n S.1 S.2.1 dX11_minute_178 rfl (lv_at hl 0 rfl) ?_
              refine lv_iload_n S.1 S.2.1 dX11_minute_179 rfl (lv_at hl 1 rfl) ?_
              refine lv_iconst (v := (nI 4)) S.1 S.2.1 dX11_minute_180 (by decide) ?_
              refine lv_bipush (v := (nI 119)) S.1 S.2.1 dX11_minute_181 (by decide) ?_
              refine mz_V S hG hM hS cf_10 k54 (As := [.int x1, .int (nI 4), .int (nI 119)]) (rest := []) (c_X11_sets h) yf_X11_sets tw_1602 tw_1604 ts_32 ⟨Nat.le_of_ble_eq_true rfl, Nat.le_of_ble_eq_true rfl⟩ ⟨(Nat.le_of_ble_eq_true rfl), (Nat.le_of_ble_eq_true rfl)⟩ rfl hl.1 rfl (Nat.le_of_ble_eq_true rfl) dX11_minute_183 (fun v9 μ57 H locs hp hM hS => ?_)
              obtain ⟨rfl, h⟩ := hp
              refine W.cs (cells' := 0) (slots' := 0) rfl rfl ?_
              exact hB186 (w_X11_minute_l109 G o Q  n) ih x1 μ57 H locs ls hM hS (lv_sub hl [0, 1] rfl) h
          · have h := h.2 c51
            refine lv_aload_n S.1 S.2.1 dX11_minute_144 rfl (lv_at hl 0 rfl) ?_
            refine lv_iload_n S.1 S.2.1 dX11_minute_145 rfl (lv_at hl 1 rfl) ?_
            refine lv_bipush (v := (nI 6)) S.1 S.2.1 dX11_minute_146 (by decide) ?_
            refine lv_iconst (v := (nI 0)) S.1 S.2.1 dX11_minute_148 (by decide) ?_
            refine mz_V S hG hM hS cf_10 k13 (As := [.int x1, .int (nI 6), .int (nI 0)]) (rest := []) (c_X11_sets h) yf_X11_sets tw_1602 tw_1604 ts_32 ⟨Nat.le_of_ble_eq_true rfl, Nat.le_of_ble_eq_true rfl⟩ ⟨(Nat.le_of_ble_eq_true rfl), (Nat.le_of_ble_eq_true rfl)⟩ rfl hl.1 rfl (Nat.le_of_ble_eq_true rfl) dX11_minute_149 (fun v9 μ58 H locs hp hM hS => ?_)
            obtain ⟨rfl, h⟩ := hp
            refine W.cs (cells' := 0) (slots' := 0) rfl rfl ?_
            refine lv_goto (tgt := 186) S.1 S.2.1 dX11_minute_152 (by decide) ?_
            exact hB186 (w_X11_minute_l109 G o Q  n) ih x1 μ58 H locs ls hM hS (lv_sub hl [0, 1] rfl) h
        · have h := h.2 c49
          refine lv_goto (tgt := 186) S.1 S.2.1 dX11_minute_130 (by decide) ?_
          exact hB186 (w_X11_minute_l109 G o Q  n) ih x1 μ H locs ls hM hS (lv_sub hl [0, 1] rfl) h
  have hB101 : ∀ (K12 : Int32 → mmT → Prop) (kK12 : ∀ (x1 : Int32) (μ : mmT) (H : Heap) (locs : List Loc) (ls : Array Slot), Mm G μ H → va_S (Ah G) s.heap H locs → lv_has ls 3 [(0, .ref o), (1, .int x1)] → K12 x1 μ → W p l e { frames := 3, cells := 0, slots := 0, locals := 72 } s m args below meth c H locs 0 0 (MQ below (mQ G (pV Q)) args s 0 0 (Ah G)) (F0 m 12 ls [])) (x1 : Int32) (μ : mmT) (H : Heap) (locs : List Loc) (ls : Array Slot), Mm G μ H → va_S (Ah G) s.heap H locs → lv_has ls 3 [(0, .ref o), (1, .int x1)] → w_X11_minute_b101 G o Q K12 x1 μ → W p l e { frames := 3, cells := 0, slots := 0, locals := 72 } s m args below meth c H locs 0 0 (MQ below (mQ G (pV Q)) args s 0 0 (Ah G)) (F0 m 101 ls []) := by
    intro K12 kK12 x1 μ H locs ls hM hS hl h
    unfold w_X11_minute_b101 at h
    refine lv_iinc (v := (x1 + nI 1)) (lv' := [(1, .int (x1 + nI 1)), (0, .ref o)]) S.1 S.2.1 dX11_minute_101 hl (k := 1) rfl rfl (by decide) rfl (fun ls hl => ?_)
    refine lv_goto (tgt := 12) S.1 S.2.1 dX11_minute_104 (by decide) ?_
    exact kK12 (x1 + nI 1) μ H locs ls hM hS (lv_sub hl [1, 0] rfl) h
  have hB12 : ∀ (n : Nat) (x1 : Int32) (μ : mmT) (H : Heap) (locs : List Loc) (ls : Array Slot), Mm G μ H → va_S (Ah G) s.heap H locs → lv_has ls 3 [(0, .ref o), (1, .int x1)] → w_X11_minute_l12 G o Q  n x1 μ → W p l e { frames := 3, cells := 0, slots := 0, locals := 72 } s m args below meth c H locs 0 0 (MQ below (mQ G (pV Q)) args s 0 0 (Ah G)) (F0 m 12 ls []) := by
    intro  n
    induction n with
    | zero =>
      intro x1 μ H locs ls hM hS hl h
      exact False.elim h
    | succ n ih =>
      intro x1 μ H locs ls hM hS hl h
      have h : w_X11_minute_b12 G o Q  (w_X11_minute_l12 G o Q  n) x1 μ := h
      unfold w_X11_minute_b12 at h
      refine lv_iload_n S.1 S.2.1 dX11_minute_12 rfl (lv_at hl 1 rfl) ?_
      refine lv_aload_n S.1 S.2.1 dX11_minute_13 rfl (lv_at hl 0 rfl) ?_
      obtain ⟨k7, h⟩ := h
      refine mz_getr S hG hM cf_10 fd_321 tw_1483 dX11_minute_14 k7 ?_
      refine lv_iconst (v := (nI 1)) S.1 S.2.1 dX11_minute_17 (by decide) ?_
      obtain ⟨a8, e9, h⟩ := h
      refine mz_o1 e9 ?_
      obtain ⟨k10, h⟩ := h
      obtain ⟨b11, h⟩ := h
      refine mz_iald S hG hM dX11_minute_18 k10 b11 ?_
      refine lv_icmp_ge (tgt := 107) S.1 S.2.1 dX11_minute_19 (by decide) (fun c12 => ?_) (fun c12 => ?_)
      · have h := h.1 c12
        refine lv_iconst (v := (nI 0)) S.1 S.2.1 dX11_minute_107 (by decide) ?_
        refine lv_istore_n (lv' := [(1, .int (nI 0)), (0, .ref o)]) S.1 S.2.1 dX11_minute_108 rfl hl (by decide) rfl (fun ls hl => ?_)
        obtain ⟨n9, h⟩ := h
        exact hB109  n9 (nI 0) μ H locs ls hM hS (lv_sub hl [1, 0] rfl) h
      · have h := h.2 c12
        refine lv_aload_n S.1 S.2.1 dX11_minute_22 rfl (lv_at hl 0 rfl) ?_
        refine mz_getr S hG hM cf_10 fd_321 tw_1483 dX11_minute_23 k7 ?_
        refine lv_sipush (v := (nI 138)) S.1 S.2.1 dX11_minute_26 (by decide) ?_
        refine lv_iconst (v := (nI 2)) S.1 S.2.1 dX11_minute_29 (by decide) ?_
        refine lv_iload_n S.1 S.2.1 dX11_minute_30 rfl (lv_at hl 1 rfl) ?_
        refine lv_imul S.1 S.2.1 dX11_minute_31 ?_
        refine lv_iadd S.1 S.2.1 dX11_minute_32 ?_
        refine mz_o1 e9 ?_
        obtain ⟨b59, h⟩ := h
        refine mz_iald S hG hM dX11_minute_33 k10 b59 ?_
        refine lv_iconst (v := (nI 1)) S.1 S.2.1 dX11_minute_34 (by decide) ?_
        refine lv_isub S.1 S.2.1 dX11_minute_35 ?_
        refine lv_istore_n (lv' := [(2, .int ((mA μ a8 ((nI 138) + ((nI 2) * x1)).toNatClampNeg) - (nI 1))), (0, .ref o), (1, .int x1)]) S.1 S.2.1 dX11_minute_36 rfl hl (by decide) rfl (fun ls hl => ?_)
        refine lv_iload_n S.1 S.2.1 dX11_minute_37 rfl (lv_at hl 0 rfl) ?_
        refine lv_iconst (v := (-1)) S.1 S.2.1 dX11_minute_38 (by decide) ?_
        refine lv_icmp_ne (tgt := 45) S.1 S.2.1 dX11_minute_39 (by decide) (fun c60 => ?_) (fun c60 => ?_)
        · have h := h.1 c60
          refine lv_aload_n S.1 S.2.1 dX11_minute_45 rfl (lv_at hl 1 rfl) ?_
          refine mz_getr S hG hM cf_10 fd_321 tw_1483 dX11_minute_46 k7 ?_
          refine lv_sipush (v := (nI 138)) S.1 S.2.1 dX11_minute_49 (by decide) ?_
          refine lv_iconst (v := (nI 2)) S.1 S.2.1 dX11_minute_52 (by decide) ?_
          refine lv_iload_n S.1 S.2.1 dX11_minute_53 rfl (lv_at hl 2 rfl) ?_
          refine lv_imul S.1 S.2.1 dX11_minute_54 ?_
          refine lv_iadd S.1 S.2.1 dX11_minute_55 ?_
          refine lv_iconst (v := (nI 1)) S.1 S.2.1 dX11_minute_56 (by decide) ?_
          refine lv_iadd S.1 S.2.1 dX11_minute_57 ?_
          refine lv_dup2_11 S.1 S.2.1 dX11_minute_58 rfl (mz_cat _) ?_
          refine mz_o1 e9 ?_
          obtain ⟨b61, h⟩ := h
          refine mz_iald S hG hM dX11_minute_59 k10 b61 ?_
          refine lv_iconst (v := (nI 1)) S.1 S.2.1 dX11_minute_60 (by decide) ?_
          refine lv_isub S.1 S.2.1 dX11_minute_61 ?_
          refine mz_o2 e9 ?_
          obtain ⟨b62, h⟩ := h
          refine mz_iast S hG hM hS dX11_minute_62 k10 b62 (fun H locs hM hS hz9 => ?_)
          refine lv_aload_n S.1 S.2.1 dX11_minute_63 rfl (lv_at hl 1 rfl) ?_
          refine mz_getr S hG hM cf_10 fd_321 tw_1483 dX11_minute_64 k7 ?_
          refine lv_sipush (v := (nI 138)) S.1 S.2.1 dX11_minute_67 (by decide) ?_
          refine lv_iconst (v := (nI 2)) S.1 S.2.1 dX11_minute_70 (by decide) ?_
          refine lv_iload_n S.1 S.2.1 dX11_minute_71 rfl (lv_at hl 2 rfl) ?_
          refine lv_imul S.1 S.2.1 dX11_minute_72 ?_
          refine lv_iadd S.1 S.2.1 dX11_minute_73 ?_
          refine lv_iconst (v := (nI 1)) S.1 S.2.1 dX11_minute_74 (by decide) ?_
          refine lv_iadd S.1 S.2.1 dX11_minute_75 ?_
          obtain ⟨a63, e64, h⟩ := h
          refine mz_o1 e64 ?_
          obtain ⟨k65, h⟩ := h
          obtain ⟨b66, h⟩ := h
          refine mz_iald S hG hM dX11_minute_76 k65 b66 ?_
          refine lv_if_le (tgt := 83) S.1 S.2.1 dX11_minute_77 (by decide) (fun c67 => ?_) (fun c67 => ?_)
          · have h := h.1 c67
            refine lv_aload_n S.1 S.2.1 dX11_minute_83 rfl (lv_at hl 1 rfl) ?_
            refine mz_getr S hG hM cf_10 fd_321 tw_1483 dX11_minute_84 k7 ?_
            refine lv_sipush (v := (nI 138)) S.1 S.2.1 dX11_minute_87 (by decide) ?_
            refine lv_iconst (v := (nI 2)) S.1 S.2.1 dX11_minute_90 (by decide) ?_
            refine lv_iload_n S.1 S.2.1 dX11_minute_91 rfl (lv_at hl 2 rfl) ?_
            refine lv_imul S.1 S.2.1 dX11_minute_92 ?_
            refine lv_iadd S.1 S.2.1 dX11_minute_93 ?_
            refine lv_iconst (v := (nI 0)) S.1 S.2.1 dX11_minute_94 (by decide) ?_
            refine mz_o2 e64 ?_
            obtain ⟨b68, h⟩ := h
            refine mz_iast S hG hM hS dX11_minute_95 k65 b68 (fun H locs hM hS hz9 => ?_)
            refine lv_aload_n S.1 S.2.1 dX11_minute_96 rfl (lv_at hl 1 rfl) ?_
            refine lv_iload_n S.1 S.2.1 dX11_minute_97 rfl (lv_at hl 0 rfl) ?_
            refine mz_V S hG hM hS cf_10 k7 (As := [.int ((mA μ a8 ((nI 138) + ((nI 2) * x1)).toNatClampNeg) - (nI 1))]) (rest := []) (c_X11_arrives h) yf_X11_arrives tw_1666 tw_1668 ts_43 ⟨Nat.le_of_ble_eq_true rfl, Nat.le_of_ble_eq_true rfl⟩ ⟨(Nat.le_of_ble_eq_true rfl), (Nat.le_of_ble_eq_true rfl)⟩ rfl hl.1 rfl (Nat.le_of_ble_eq_true rfl) dX11_minute_98 (fun v9 μ69 H locs hp hM hS => ?_)
            obtain ⟨rfl, h⟩ := hp
            refine W.cs (cells' := 0) (slots' := 0) rfl rfl ?_
            exact hB101 (w_X11_minute_l12 G o Q  n) ih x1 μ69 H locs ls hM hS (lv_sub hl [1, 2] rfl) h
          · have h := h.2 c67
            refine lv_goto (tgt := 101) S.1 S.2.1 dX11_minute_80 (by decide) ?_
            exact hB101 (w_X11_minute_l12 G o Q  n) ih x1 (sA μ a8 (((nI 138) + ((nI 2) * x1)) + (nI 1)).toNatClampNeg ((mA μ a8 (((nI 138) + ((nI 2) * x1)) + (nI 1)).toNatClampNeg) - (nI 1))) H locs ls hM hS (lv_sub hl [1, 2] rfl) h
        · have h := h.2 c60
          refine lv_goto (tgt := 101) S.1 S.2.1 dX11_minute_42 (by decide) ?_
          exact hB101 (w_X11_minute_l12 G o Q  n) ih x1 μ H locs ls hM hS (lv_sub hl [1, 2] rfl) h
  intro H locs ls hM hS hl
  have hl : lv_has ls 3 [(0, .ref o)] := hl
  unfold w_X11_minute at h
  refine lv_aload_n S.1 S.2.1 dX11_minute_0 rfl (lv_at hl 0 rfl) ?_
  obtain ⟨k1, h⟩ := h
  refine mz_getr S hG hM cf_10 fd_321 tw_1483 dX11_minute_1 k1 ?_
  refine lv_iconst (v := (nI 4)) S.1 S.2.1 dX11_minute_4 (by decide) ?_
  refine lv_dup2_11 S.1 S.2.1 dX11_minute_5 rfl (mz_cat _) ?_
  obtain ⟨a2, e3, h⟩ := h
  refine mz_o1 e3 ?_
  obtain ⟨k4, h⟩ := h
  obtain ⟨b5, h⟩ := h
  refine mz_iald S hG hM dX11_minute_6 k4 b5 ?_
  refine lv_iconst (v := (nI 1)) S.1 S.2.1 dX11_minute_7 (by decide) ?_
  refine lv_iadd S.1 S.2.1 dX11_minute_8 ?_
  refine mz_o2 e3 ?_
  obtain ⟨b6, h⟩ := h
  refine mz_iast S hG hM hS dX11_minute_9 k4 b6 (fun H locs hM hS hz9 => ?_)
  refine lv_iconst (v := (nI 0)) S.1 S.2.1 dX11_minute_10 (by decide) ?_
  refine lv_istore_n (lv' := [(1, .int (nI 0)), (0, .ref o)]) S.1 S.2.1 dX11_minute_11 rfl hl (by decide) rfl (fun ls hl => ?_)
  obtain ⟨n9, h⟩ := h
  exact hB12  n9 (nI 0) (sA μ a2 (nI 4).toNatClampNeg ((mA μ a2 (nI 4).toNatClampNeg) + (nI 1))) H locs ls hM hS (lv_sub hl [1, 0] rfl) h

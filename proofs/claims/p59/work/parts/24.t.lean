set_option maxRecDepth 100000 in
set_option maxHeartbeats 4000000 in
theorem c_J7_copyOfRange_39247 {l : Launch} {G : mgT} {μ : mmT} {r0 : Option Nat} {x1 : Int32} {x2 : Int32} {Q : Option Nat → mmT → Prop} (h : w_J7_copyOfRange_39247 G μ r0 x1 x2 Q) : MC G l yJ7_copyOfRange_39247 cJ7_copyOfRange_39247 3 (some (.array .byte)) { frames := 2, cells := 1, slots := 16, locals := 84 } [va_rf r0, .int x1, .int x2] μ (pR Q) := by
  refine mz_MC (by decide +kernel) (by simp [lg_sl, mz_cat, mz_cr, mz_ci, mz_cl, mz_cf, mz_cd, mz_cn]) (fun p e s m args below meth c S hG hr hlk hnm => ?_)
  have hB10 : ∀ (r0 : Option Nat) (x1 : Int32) (x2 : Int32) (μ : mmT) (H : Heap) (locs : List Loc) (ls : Array Slot), Mm G μ H → va_S (Ah G) s.heap H locs → lv_has ls 3 [(0, va_rf r0), (1, .int x1), (2, .int x2)] → w_J7_copyOfRange_39247_b10 G Q  r0 x1 x2 μ → W p l e { frames := 2, cells := 1, slots := 16, locals := 84 } s m args below meth c H locs (0) (0) (MQ below (mQ G (pR Q)) args s 1 16 (Ah G)) (F0 m 10 ls []) := by
    intro  r0 x1 x2 μ H locs ls hM hS hl h
    unfold w_J7_copyOfRange_39247_b10 at h
    refine mz_aload_n (x := r0) S.1 S.2.1 dJ7_copyOfRange_39247_10 rfl (lv_at hl 0 rfl) ?_
    refine lv_iload_n S.1 S.2.1 dJ7_copyOfRange_39247_11 rfl (lv_at hl 1 rfl) ?_
    refine lv_iload_n S.1 S.2.1 dJ7_copyOfRange_39247_12 rfl (lv_at hl 2 rfl) ?_
    refine mz_S S hG hM hS (As := [va_rf r0, .int x1, .int x2]) (rest := []) (c_J7_copyOfRangeByte_39247 h) yf_J7_copyOfRangeByte_39247 tw_968 tw_969 ⟨Nat.le_of_ble_eq_true rfl, Nat.le_of_ble_eq_true rfl⟩ ⟨(Nat.le_of_ble_eq_true rfl), (Nat.le_of_ble_eq_true rfl)⟩ rfl hl.1 rfl (Nat.le_of_ble_eq_true rfl) dJ7_copyOfRange_39247_13 (fun v9 μ3 H locs hp hM hS => ?_)
    obtain ⟨ru2, rfl, h⟩ := hp
    refine W.cs (cells' := 1) (slots' := 16) rfl rfl ?_
    exact mz_aret (x := ru2) S hr (by first | exact Or.inl ⟨_, rfl⟩ | exact Or.inr ⟨_, rfl⟩) hlk hM hS (Nat.le_of_ble_eq_true rfl) (Nat.le_of_ble_eq_true rfl) dJ7_copyOfRange_39247_16 ⟨_, rfl, h⟩
  intro H locs ls hM hS hl
  have hl : lv_has ls 3 [(0, va_rf r0), (1, .int x1), (2, .int x2)] := by simpa [lv_args, mz_cat, mz_cr, mz_ci, mz_cl, mz_cf, mz_cd, mz_cn] using hl
  unfold w_J7_copyOfRange_39247 at h
  refine lv_iload_n S.1 S.2.1 dJ7_copyOfRange_39247_0 rfl (lv_at hl 1 rfl) ?_
  refine lv_if_ne (tgt := 10) S.1 S.2.1 dJ7_copyOfRange_39247_1 (by decide) (fun c1 => ?_) (fun c1 => ?_)
  · have h := h.1 c1
    exact hB10  r0 x1 x2 μ H locs ls hM hS (lv_sub hl [0, 1, 2] rfl) h
  · have h := h.2 c1
    refine lv_iload_n S.1 S.2.1 dJ7_copyOfRange_39247_4 rfl (lv_at hl 2 rfl) ?_
    refine mz_aload_n (x := r0) S.1 S.2.1 dJ7_copyOfRange_39247_5 rfl (lv_at hl 0 rfl) ?_
    obtain ⟨a4, e5, h⟩ := h
    refine mz_o0 e5 ?_
    obtain ⟨k6, h⟩ := h
    refine mz_alen (j := 0) S hG hM dJ7_copyOfRange_39247_6 k6 ?_
    refine lv_icmp_eq (tgt := 17) S.1 S.2.1 dJ7_copyOfRange_39247_7 (by decide) (fun c7 => ?_) (fun c7 => ?_)
    · have h := h.1 c7
      refine mz_aload_n (x := r0) S.1 S.2.1 dJ7_copyOfRange_39247_17 rfl (lv_at hl 0 rfl) ?_
      refine mz_o0 e5 ?_
      obtain ⟨f8, b9, h⟩ := h
      obtain ⟨zz10, hz⟩ : ∃ z9 : Nat, H.size = z9 := ⟨_, rfl⟩
      have h := h zz10 (fun a9 q9 => by rw [← hz]; exact (hM a9 q9).2.1)
      have hg : gh G ≤ zz10 := by rw [← hz]; exact Nat.le_trans hG.low hS.1
      refine mz_clone S hG hM hS hl.1 hz hg tw_827 tw_828 tw_829 tw_830 tw_831 (hG.cast (i := 832) (by decide +kernel)) k6 f8 b9 (Nat.le_of_ble_eq_true rfl) (Nat.le_of_ble_eq_true rfl) (Nat.le_of_ble_eq_true rfl) (Nat.le_of_ble_eq_true rfl) dJ7_copyOfRange_39247_18 (fun H hM hS hz => ?_)
      have hg := Nat.le_succ_of_le hg
      refine W.cs (cells' := 1) (slots' := 16) rfl rfl ?_
      obtain ⟨k11, h⟩ := h
      refine mz_castB S hG hM tw_833 k11 dJ7_copyOfRange_39247_21 ?_
      exact mz_aret (x := (some zz10)) S hr (by first | exact Or.inl ⟨_, rfl⟩ | exact Or.inr ⟨_, rfl⟩) hlk hM hS (Nat.le_of_ble_eq_true rfl) (Nat.le_of_ble_eq_true rfl) dJ7_copyOfRange_39247_24 ⟨_, rfl, h⟩
    · have h := h.2 c7
      exact hB10  r0 x1 x2 μ H locs ls hM hS (lv_sub hl [0, 1, 2] rfl) h
set_option maxRecDepth 100000 in
set_option maxHeartbeats 4000000 in
theorem c_J0_init_db425 {l : Launch} {G : mgT} {μ : mmT} {o : Nat} {r1 : Option Nat} {r2 : Option Nat} {Q : mmT → Prop} (h : w_J0_init_db425 G μ o r1 r2 Q) : MC G l yJ0_init_db425 cJ0_init_db425 5 none { frames := 3, cells := 1, slots := 16, locals := 106 } [.ref o, va_rf r1, va_rf r2] μ (pV Q) := by
  refine mz_MC (by decide +kernel) (by simp [lg_sl, mz_cat, mz_cr, mz_ci, mz_cl, mz_cf, mz_cd, mz_cn]) (fun p e s m args below meth c S hG hr hlk hnm => ?_)
  intro H locs ls hM hS hl
  have hl : lv_has ls 5 [(0, .ref o), (1, va_rf r1), (2, va_rf r2)] := by simpa [lv_args, mz_cat, mz_cr, mz_ci, mz_cl, mz_cf, mz_cd, mz_cn] using hl
  unfold w_J0_init_db425 at h
  refine lv_aload_n S.1 S.2.1 dJ0_init_db425_0 rfl (lv_at hl 0 rfl) ?_
  refine W.objInit S.1 S.2.1 S.2.2.2.1 (S.2.2.2.2 _ tw_950) (S.2.2.2.2 _ tw_42) (S.2.2.2.2 _ tw_43) rfl (by rw [S.2.2.1]; exact hl.1) rfl dJ0_init_db425_1 (Nat.le_of_ble_eq_true rfl) (Nat.le_of_ble_eq_true rfl) ?_
  refine W.eq (g2 := F0 m 4 ls []) rfl ?_
  refine mz_aload_n (x := r1) S.1 S.2.1 dJ0_init_db425_4 rfl (lv_at hl 1 rfl) ?_
  obtain ⟨a1, e2, h⟩ := h
  refine mz_o0 e2 ?_
  obtain ⟨k3, h⟩ := h
  refine mz_V S hG hM hS cf_0 k3 (As := []) (rest := []) (c_J5_getValue_6d5f1 h) yf_J5_getValue_6d5f1 tw_951 tw_952 tw_954 ⟨Nat.le_of_ble_eq_true rfl, Nat.le_of_ble_eq_true rfl⟩ ⟨(Nat.le_of_ble_eq_true rfl), (Nat.le_of_ble_eq_true rfl)⟩ rfl hl.1 rfl (Nat.le_of_ble_eq_true rfl) dJ0_init_db425_5 (fun v9 μ9 H locs hp hM hS => ?_)
  obtain ⟨ru4, rfl, e9, h⟩ := hp
  rw [e9] at hM
  refine W.cs (cells' := 0) (slots' := 0) rfl rfl ?_
  refine mz_astore_n (x := ru4) (i := 3) (lv' := [(3, va_rf ru4), (0, .ref o), (1, va_rf r1), (2, va_rf r2)]) S.1 S.2.1 dJ0_init_db425_8 rfl hl (by decide) (by simp [List.filter, mz_cat]) (fun ls hl => ?_)
  refine mz_aload_n (x := r1) S.1 S.2.1 dJ0_init_db425_9 rfl (lv_at hl 2 rfl) ?_
  refine mz_o0 e2 ?_
  refine mz_O S hG hM hS (mz_recv hG hM cf_0 k3) (As := []) (rest := []) (c_J4_length_8abf5 h) yf_J4_length_8abf5 tw_956 tw_958 tw_957 tw_963 tw_960 tw_959 ⟨by decide, by decide⟩ (by decide +kernel) ⟨Nat.le_of_ble_eq_true rfl, Nat.le_of_ble_eq_true rfl⟩ ⟨(Nat.le_of_ble_eq_true rfl), (Nat.le_of_ble_eq_true rfl)⟩ rfl hl.1 rfl (Nat.le_of_ble_eq_true rfl) dJ0_init_db425_10 (fun v9 μ9 H locs hp hM hS => ?_)
  obtain ⟨u5, rfl, e9, h⟩ := hp
  rw [e9] at hM
  refine W.cs (cells' := 0) (slots' := 0) rfl rfl ?_
  refine lv_istore (i := 4) (lv' := [(4, .int u5), (3, va_rf ru4), (0, .ref o), (1, va_rf r1), (2, va_rf r2)]) S.1 S.2.1 dJ0_init_db425_13 hl (by decide) (by simp [List.filter, mz_cat]) (fun ls hl => ?_)
  refine mz_aload_n (x := r1) S.1 S.2.1 dJ0_init_db425_15 rfl (lv_at hl 3 rfl) ?_
  refine mz_o0 e2 ?_
  refine mz_V S hG hM hS cf_0 k3 (As := []) (rest := []) (c_J5_isLatin1_aae02 h) yf_J5_isLatin1_aae02 tw_964 tw_839 tw_841 ⟨Nat.le_of_ble_eq_true rfl, Nat.le_of_ble_eq_true rfl⟩ ⟨(Nat.le_of_ble_eq_true rfl), (Nat.le_of_ble_eq_true rfl)⟩ rfl hl.1 rfl (Nat.le_of_ble_eq_true rfl) dJ0_init_db425_16 (fun v9 μ9 H locs hp hM hS => ?_)
  obtain ⟨u6, rfl, e9, h⟩ := hp
  rw [e9] at hM
  refine W.cs (cells' := 0) (slots' := 0) rfl rfl ?_
  obtain ⟨c7, h⟩ := h
  refine lv_if_eq (tgt := 41) S.1 S.2.1 dJ0_init_db425_19 (by decide) (fun c => absurd c c7) (fun _ => ?_)
  refine lv_aload_n S.1 S.2.1 dJ0_init_db425_22 rfl (lv_at hl 2 rfl) ?_
  refine lv_iconst (v := (nI 0)) S.1 S.2.1 dJ0_init_db425_23 (by decide) ?_
  obtain ⟨k8, h⟩ := h
  refine mz_putFi S hG hM hS cf_10 fd_321 tw_996 dJ0_init_db425_24 (by rw [hnm]; rfl) k8 rfl rfl (fun H locs hM hS hz9 => ?_)
  refine lv_aload_n S.1 S.2.1 dJ0_init_db425_27 rfl (lv_at hl 2 rfl) ?_
  refine mz_aload_n (x := ru4) S.1 S.2.1 dJ0_init_db425_28 rfl (lv_at hl 1 rfl) ?_
  refine lv_iconst (v := (nI 0)) S.1 S.2.1 dJ0_init_db425_29 (by decide) ?_
  refine lv_iload S.1 S.2.1 dJ0_init_db425_30 (lv_at hl 0 rfl) ?_
  refine mz_S S hG hM hS (As := [va_rf ru4, .int (nI 0), .int u5]) (rest := [.ref o]) (c_J7_copyOfRange_39247 h) yf_J7_copyOfRange_39247 tw_965 tw_966 ⟨Nat.le_of_ble_eq_true rfl, Nat.le_of_ble_eq_true rfl⟩ ⟨(Nat.le_of_ble_eq_true rfl), (Nat.le_of_ble_eq_true rfl)⟩ rfl hl.1 rfl (Nat.le_of_ble_eq_true rfl) dJ0_init_db425_32 (fun v9 μ10 H locs hp hM hS => ?_)
  obtain ⟨ru9, rfl, h⟩ := hp
  refine W.cs (cells' := 1) (slots' := 16) rfl rfl ?_
  obtain ⟨k11, h⟩ := h
  refine mz_putFr (x := ru9) S hG hM hS cf_10 fd_320 tw_995 dJ0_init_db425_35 (by rw [hnm]; rfl) k11 (by rcases va_rf_or ru9 with q | ⟨_, q⟩ <;> rw [q] <;> rfl) (by rcases va_rf_or ru9 with q | ⟨_, q⟩ <;> rw [q] <;> rfl) (fun H locs hM hS hz9 => ?_)
  refine lv_goto (tgt := 97) S.1 S.2.1 dJ0_init_db425_38 (by decide) ?_
  exact mz_vret S hr hlk hM hS (Nat.le_of_ble_eq_true rfl) (Nat.le_of_ble_eq_true rfl) dJ0_init_db425_97 ⟨rfl, h⟩
set_option maxRecDepth 100000 in
set_option maxHeartbeats 4000000 in
theorem c_J0_init_81219 {l : Launch} {G : mgT} {μ : mmT} {o : Nat} {r1 : Option Nat} {Q : mmT → Prop} (h : w_J0_init_81219 G μ o r1 Q) : MC G l yJ0_init_81219 cJ0_init_81219 2 none { frames := 4, cells := 1, slots := 16, locals := 130 } [.ref o, va_rf r1] μ (pV Q) := by
  refine mz_MC (by decide +kernel) (by simp [lg_sl, mz_cat, mz_cr, mz_ci, mz_cl, mz_cf, mz_cd, mz_cn]) (fun p e s m args below meth c S hG hr hlk hnm => ?_)
  intro H locs ls hM hS hl
  have hl : lv_has ls 2 [(0, .ref o), (1, va_rf r1)] := by simpa [lv_args, mz_cat, mz_cr, mz_ci, mz_cl, mz_cf, mz_cd, mz_cn] using hl
  unfold w_J0_init_81219 at h
  refine lv_aload_n S.1 S.2.1 dJ0_init_81219_0 rfl (lv_at hl 0 rfl) ?_
  refine mz_aload_n (x := r1) S.1 S.2.1 dJ0_init_81219_1 rfl (lv_at hl 1 rfl) ?_
  refine lv_null S.1 S.2.1 dJ0_init_81219_2 ?_
  obtain ⟨k1, h⟩ := h
  refine mz_IC S hG hM hS (As := [va_rf r1, .null]) (rest := []) (c_J0_init_db425 h) yf_J0_init_db425 rfl tw_947 tw_948 ⟨Nat.le_of_ble_eq_true rfl, Nat.le_of_ble_eq_true rfl⟩ ⟨(Nat.le_of_ble_eq_true rfl), (Nat.le_of_ble_eq_true rfl)⟩ rfl hl.1 rfl (Nat.le_of_ble_eq_true rfl) dJ0_init_81219_3 (fun v9 μ2 H locs hp hM hS => ?_)
  obtain ⟨rfl, h⟩ := hp
  refine W.cs (cells' := 1) (slots' := 16) rfl rfl ?_
  exact mz_vret S hr hlk hM hS (Nat.le_of_ble_eq_true rfl) (Nat.le_of_ble_eq_true rfl) dJ0_init_81219_6 ⟨rfl, h⟩
set_option maxRecDepth 100000 in
set_option maxHeartbeats 4000000 in
theorem c_J4_toString_0e30d {l : Launch} {G : mgT} {μ : mmT} {o : Nat} {Q : Option Nat → mmT → Prop} (h : w_J4_toString_0e30d G μ o Q) : MC G l yJ4_toString_0e30d cJ4_toString_0e30d 1 (some (.object "java/lang/String")) { frames := 5, cells := 2, slots := 20, locals := 151 } [.ref o] μ (pR Q) := by
  refine mz_MC (by decide +kernel) (Nat.le_of_ble_eq_true rfl) (fun p e s m args below meth c S hG hr hlk hnm => ?_)
  intro H locs ls hM hS hl
  have hl : lv_has ls 1 [(0, .ref o)] := hl
  unfold w_J4_toString_0e30d at h
  obtain ⟨zz1, hz⟩ : ∃ z9 : Nat, H.size = z9 := ⟨_, rfl⟩
  have h := h zz1 (fun a9 q9 => by rw [← hz]; exact (hM a9 q9).2.1)
  have hg : gh G ≤ zz1 := by rw [← hz]; exact Nat.le_trans hG.low hS.1
  refine mz_new S hG hM hS hz hg cf_10 nv_10 tw_943 tw_730 tw_14 (Nat.le_of_ble_eq_true rfl) (Nat.le_of_ble_eq_true rfl) dJ4_toString_0e30d_0 (fun H hM hS hz => ?_)
  have hg := Nat.le_succ_of_le hg
  refine W.cs (cells' := 1) (slots' := 4) rfl rfl ?_
  refine lv_dup S.1 S.2.1 dJ4_toString_0e30d_3 rfl ?_
  refine lv_aload_n S.1 S.2.1 dJ4_toString_0e30d_4 rfl (lv_at hl 0 rfl) ?_
  obtain ⟨k2, h⟩ := h
  refine mz_IC S hG hM hS (As := [.ref o]) (rest := [.ref zz1]) (c_J0_init_81219 h) yf_J0_init_81219 rfl tw_944 tw_945 ⟨Nat.le_of_ble_eq_true rfl, Nat.le_of_ble_eq_true rfl⟩ ⟨(Nat.le_of_ble_eq_true rfl), (Nat.le_of_ble_eq_true rfl)⟩ rfl hl.1 rfl (Nat.le_of_ble_eq_true rfl) dJ4_toString_0e30d_5 (fun v9 μ3 H locs hp hM hS => ?_)
  obtain ⟨rfl, h⟩ := hp
  refine W.cs (cells' := 2) (slots' := 20) rfl rfl ?_
  exact mz_aret (x := (some zz1)) S hr (by first | exact Or.inl ⟨_, rfl⟩ | exact Or.inr ⟨_, rfl⟩) hlk hM hS (Nat.le_of_ble_eq_true rfl) (Nat.le_of_ble_eq_true rfl) dJ4_toString_0e30d_8 ⟨_, rfl, h⟩
set_option maxRecDepth 100000 in
set_option maxHeartbeats 4000000 in
theorem c_J5_inflateIfNeededFor_a7421_D {l : Launch} {G : mgT} {μ : mmT} {o : Nat} {r1 : Option Nat} {Q : Prop} (h : w_J5_inflateIfNeededFor_a7421_D G μ o r1 Q) : MC G l yJ5_inflateIfNeededFor_a7421 cJ5_inflateIfNeededFor_a7421 2 none { frames := 1, cells := 0, slots := 0, locals := 20 } [.ref o, va_rf r1] μ (pV (fun μ' => μ' = μ ∧ Q)) := by
  refine mz_MC (by decide +kernel) (by simp [lg_sl, mz_cat, mz_cr, mz_ci, mz_cl, mz_cf, mz_cd, mz_cn]) (fun p e s m args below meth c S hG hr hlk hnm => ?_)
  intro H locs ls hM hS hl
  have hl : lv_has ls 2 [(0, .ref o), (1, va_rf r1)] := by simpa [lv_args, mz_cat, mz_cr, mz_ci, mz_cl, mz_cf, mz_cd, mz_cn] using hl
  unfold w_J5_inflateIfNeededFor_a7421_D at h
  refine va_gets S.1 S.2.1 (hG.2.2.2.2.2.2.2.2.2.2.1) hS S.2.2.2.1 (S.2.2.2.2 _ tw_320) (fun _ q => q) dJ5_inflateIfNeededFor_a7421_0 ?_
  obtain ⟨c1, h⟩ := h
  refine lv_if_eq (tgt := 21) S.1 S.2.1 dJ5_inflateIfNeededFor_a7421_3 (by decide) (fun c => absurd c c1) (fun _ => ?_)
  refine lv_aload_n S.1 S.2.1 dJ5_inflateIfNeededFor_a7421_6 rfl (lv_at hl 0 rfl) ?_
  obtain ⟨k2, h⟩ := h
  refine mz_geti S hG hM cf_0 fd_1 tw_330 dJ5_inflateIfNeededFor_a7421_7 k2 ?_
  refine mz_aload_n (x := r1) S.1 S.2.1 dJ5_inflateIfNeededFor_a7421_10 rfl (lv_at hl 1 rfl) ?_
  obtain ⟨a3, e4, h⟩ := h
  refine mz_o0 e4 ?_
  obtain ⟨k5, h⟩ := h
  refine mz_V S hG hM hS cf_10 k5 (As := []) (rest := [.int (mI μ 1 o)]) (c_J0_coder_7d493_D h) yf_J0_coder_7d493 tw_886 tw_874 tw_875 ⟨Nat.le_of_ble_eq_true rfl, Nat.le_of_ble_eq_true rfl⟩ ⟨(Nat.le_of_ble_eq_true rfl), (Nat.le_of_ble_eq_true rfl)⟩ rfl hl.1 rfl (Nat.le_of_ble_eq_true rfl) dJ5_inflateIfNeededFor_a7421_11 (fun v9 μ9 H locs hp hM hS => ?_)
  obtain ⟨u6, rfl, e9, h⟩ := hp
  rw [e9] at hM
  refine W.cs (cells' := 0) (slots' := 0) rfl rfl ?_
  obtain ⟨c7, h⟩ := h
  refine lv_icmp_eq (tgt := 21) S.1 S.2.1 dJ5_inflateIfNeededFor_a7421_14 (by decide) (fun _ => ?_) (fun c => absurd c7 c)
  exact mz_vret S hr hlk hM hS (Nat.le_of_ble_eq_true rfl) (Nat.le_of_ble_eq_true rfl) dJ5_inflateIfNeededFor_a7421_21 ⟨rfl, rfl, h⟩
set_option maxRecDepth 100000 in
set_option maxHeartbeats 4000000 in
theorem c_J0_getBytes_840e7_D {l : Launch} {G : mgT} {μ : mmT} {o : Nat} {r1 : Option Nat} {x2 : Int32} {x3 : Int32} {Q : mmT → Prop} (h : w_J0_getBytes_840e7_D G μ o r1 x2 x3 Q) : MC G l yJ0_getBytes_840e7 cJ0_getBytes_840e7 4 none { frames := 1, cells := 0, slots := 0, locals := 60 } [.ref o, va_rf r1, .int x2, .int x3] μ (pV Q) := by
  refine mz_MC (by decide +kernel) (by simp [lg_sl, mz_cat, mz_cr, mz_ci, mz_cl, mz_cf, mz_cd, mz_cn]) (fun p e s m args below meth c S hG hr hlk hnm => ?_)
  intro H locs ls hM hS hl
  have hl : lv_has ls 4 [(0, .ref o), (1, va_rf r1), (2, .int x2), (3, .int x3)] := by simpa [lv_args, mz_cat, mz_cr, mz_ci, mz_cl, mz_cf, mz_cd, mz_cn] using hl
  unfold w_J0_getBytes_840e7_D at h
  refine lv_aload_n S.1 S.2.1 dJ0_getBytes_840e7_0 rfl (lv_at hl 0 rfl) ?_
  obtain ⟨k1, h⟩ := h
  refine mz_V S hG hM hS cf_10 k1 (As := []) (rest := []) (c_J0_coder_7d493_D h) yf_J0_coder_7d493 tw_873 tw_874 tw_875 ⟨Nat.le_of_ble_eq_true rfl, Nat.le_of_ble_eq_true rfl⟩ ⟨(Nat.le_of_ble_eq_true rfl), (Nat.le_of_ble_eq_true rfl)⟩ rfl hl.1 rfl (Nat.le_of_ble_eq_true rfl) dJ0_getBytes_840e7_1 (fun v9 μ9 H locs hp hM hS => ?_)
  obtain ⟨u2, rfl, e9, h⟩ := hp
  rw [e9] at hM
  refine W.cs (cells' := 0) (slots' := 0) rfl rfl ?_
  refine lv_iload_n S.1 S.2.1 dJ0_getBytes_840e7_4 rfl (lv_at hl 3 rfl) ?_
  obtain ⟨c3, h⟩ := h
  refine lv_icmp_ne (tgt := 28) S.1 S.2.1 dJ0_getBytes_840e7_5 (by decide) (fun c => absurd c3 c) (fun _ => ?_)
  refine lv_aload_n S.1 S.2.1 dJ0_getBytes_840e7_8 rfl (lv_at hl 0 rfl) ?_
  refine mz_getr S hG hM cf_10 fd_320 tw_995 dJ0_getBytes_840e7_9 k1 ?_
  refine lv_iconst (v := (nI 0)) S.1 S.2.1 dJ0_getBytes_840e7_12 (by decide) ?_
  refine mz_aload_n (x := r1) S.1 S.2.1 dJ0_getBytes_840e7_13 rfl (lv_at hl 1 rfl) ?_
  refine lv_iload_n S.1 S.2.1 dJ0_getBytes_840e7_14 rfl (lv_at hl 2 rfl) ?_
  refine lv_iload_n S.1 S.2.1 dJ0_getBytes_840e7_15 rfl (lv_at hl 3 rfl) ?_
  refine lv_ishl S.1 S.2.1 dJ0_getBytes_840e7_16 ?_
  refine lv_aload_n S.1 S.2.1 dJ0_getBytes_840e7_17 rfl (lv_at hl 0 rfl) ?_
  refine mz_getr S hG hM cf_10 fd_320 tw_995 dJ0_getBytes_840e7_18 k1 ?_
  obtain ⟨a4, e5, h⟩ := h
  refine mz_o0 e5 ?_
  obtain ⟨k6, h⟩ := h
  refine mz_alen (j := 0) S hG hM dJ0_getBytes_840e7_21 k6 ?_
  refine mz_o4 e5 ?_
  obtain ⟨a7, e8, h⟩ := h
  refine mz_o2 e8 ?_
  obtain ⟨k9, h⟩ := h
  obtain ⟨g10, h⟩ := h
  obtain ⟨g11, h⟩ := h
  obtain ⟨b12, b13, h⟩ := h
  obtain ⟨f14, h⟩ := h
  refine mz_copyB S hG hM hS hl.1 tw_910 tw_549 tw_548 tw_23 k6 k9 (by decide) g10 g11 b12 b13 f14 (Nat.le_of_ble_eq_true rfl) (Nat.le_of_ble_eq_true rfl) dJ0_getBytes_840e7_22 (fun H locs hM hS hz9 => ?_)
  refine lv_goto (tgt := 43) S.1 S.2.1 dJ0_getBytes_840e7_25 (by decide) ?_
  exact mz_vret S hr hlk hM hS (Nat.le_of_ble_eq_true rfl) (Nat.le_of_ble_eq_true rfl) dJ0_getBytes_840e7_43 ⟨rfl, h⟩
set_option maxRecDepth 100000 in
set_option maxHeartbeats 4000000 in
theorem c_J5_putStringAt_47b60_D {l : Launch} {G : mgT} {μ : mmT} {o : Nat} {x1 : Int32} {r2 : Option Nat} {Q : mmT → Prop} (h : w_J5_putStringAt_47b60_D G μ o x1 r2 Q) : MC G l yJ5_putStringAt_47b60 cJ5_putStringAt_47b60 3 none { frames := 2, cells := 0, slots := 0, locals := 83 } [.ref o, .int x1, va_rf r2] μ (pV Q) := by
  refine mz_MC (by decide +kernel) (by simp [lg_sl, mz_cat, mz_cr, mz_ci, mz_cl, mz_cf, mz_cd, mz_cn]) (fun p e s m args below meth c S hG hr hlk hnm => ?_)
  intro H locs ls hM hS hl
  have hl : lv_has ls 3 [(0, .ref o), (1, .int x1), (2, va_rf r2)] := by simpa [lv_args, mz_cat, mz_cr, mz_ci, mz_cl, mz_cf, mz_cd, mz_cn] using hl
  unfold w_J5_putStringAt_47b60_D at h
  refine lv_aload_n S.1 S.2.1 dJ5_putStringAt_47b60_0 rfl (lv_at hl 0 rfl) ?_
  refine mz_aload_n (x := r2) S.1 S.2.1 dJ5_putStringAt_47b60_1 rfl (lv_at hl 2 rfl) ?_
  obtain ⟨k1, h⟩ := h
  refine mz_V0 S hG hM hS (mz_recv hG hM cf_0 k1) (As := [va_rf r2]) (rest := []) (c_J5_inflateIfNeededFor_a7421_D h) yf_J5_inflateIfNeededFor_a7421 tw_882 tw_884 (S.2.2.2.2 _ (TT_x (i := 2) rfl (by decide +kernel))) ⟨Nat.le_of_ble_eq_true rfl, Nat.le_of_ble_eq_true rfl⟩ ⟨(Nat.le_of_ble_eq_true rfl), (Nat.le_of_ble_eq_true rfl)⟩ rfl hl.1 rfl (Nat.le_of_ble_eq_true rfl) dJ5_putStringAt_47b60_2 (fun v9 μ9 H locs hp hM hS => ?_)
  obtain ⟨rfl, e9, h⟩ := hp
  rw [e9] at hM
  refine W.cs (cells' := 0) (slots' := 0) rfl rfl ?_
  refine mz_aload_n (x := r2) S.1 S.2.1 dJ5_putStringAt_47b60_5 rfl (lv_at hl 2 rfl) ?_
  refine lv_aload_n S.1 S.2.1 dJ5_putStringAt_47b60_6 rfl (lv_at hl 0 rfl) ?_
  refine mz_getr S hG hM cf_0 fd_0 tw_329 dJ5_putStringAt_47b60_7 k1 ?_
  refine lv_iload_n S.1 S.2.1 dJ5_putStringAt_47b60_10 rfl (lv_at hl 1 rfl) ?_
  refine lv_aload_n S.1 S.2.1 dJ5_putStringAt_47b60_11 rfl (lv_at hl 0 rfl) ?_
  refine mz_geti S hG hM cf_0 fd_1 tw_330 dJ5_putStringAt_47b60_12 k1 ?_
  obtain ⟨a2, e3, h⟩ := h
  refine mz_o3 e3 ?_
  obtain ⟨k4, h⟩ := h
  refine mz_V S hG hM hS cf_10 k4 (As := [va_rf (mR μ 0 o), .int x1, .int (mI μ 1 o)]) (rest := []) (c_J0_getBytes_840e7_D h) yf_J0_getBytes_840e7 tw_906 tw_907 tw_908 ⟨Nat.le_of_ble_eq_true rfl, Nat.le_of_ble_eq_true rfl⟩ ⟨(Nat.le_of_ble_eq_true rfl), (Nat.le_of_ble_eq_true rfl)⟩ rfl hl.1 rfl (Nat.le_of_ble_eq_true rfl) dJ5_putStringAt_47b60_15 (fun v9 μ5 H locs hp hM hS => ?_)
  obtain ⟨rfl, h⟩ := hp
  refine W.cs (cells' := 0) (slots' := 0) rfl rfl ?_
  exact mz_vret S hr hlk hM hS (Nat.le_of_ble_eq_true rfl) (Nat.le_of_ble_eq_true rfl) dJ5_putStringAt_47b60_18 ⟨rfl, h⟩
set_option maxRecDepth 100000 in
set_option maxHeartbeats 4000000 in
theorem c_J5_append_cf1ce_D {l : Launch} {G : mgT} {μ : mmT} {o : Nat} {r1 : Option Nat} {Q : Option Nat → mmT → Prop} (h : w_J5_append_cf1ce_D G μ o r1 Q) : MC G l yJ5_append_cf1ce cJ5_append_cf1ce 3 (some (.object "java/lang/AbstractStringBuilder")) { frames := 3, cells := 0, slots := 0, locals := 105 } [.ref o, va_rf r1] μ (pR Q) := by
  refine mz_MC (by decide +kernel) (by simp [lg_sl, mz_cat, mz_cr, mz_ci, mz_cl, mz_cf, mz_cd, mz_cn]) (fun p e s m args below meth c S hG hr hlk hnm => ?_)
  intro H locs ls hM hS hl
  have hl : lv_has ls 3 [(0, .ref o), (1, va_rf r1)] := by simpa [lv_args, mz_cat, mz_cr, mz_ci, mz_cl, mz_cf, mz_cd, mz_cn] using hl
  unfold w_J5_append_cf1ce_D at h
  refine mz_aload_n (x := r1) S.1 S.2.1 dJ5_append_cf1ce_0 rfl (lv_at hl 1 rfl) ?_
  obtain ⟨a1, e2, h⟩ := h
  refine mz_o0 e2 ?_
  refine lv_ifnonnull (tgt := 9) S.1 S.2.1 dJ5_append_cf1ce_1 (by decide) ?_
  refine mz_aload_n (x := r1) S.1 S.2.1 dJ5_append_cf1ce_9 rfl (lv_at hl 1 rfl) ?_
  refine mz_o0 e2 ?_
  obtain ⟨k3, h⟩ := h
  refine mz_V S hG hM hS cf_10 k3 (As := []) (rest := []) (c_J0_length_8abf5_D h) yf_J0_length_8abf5 tw_869 tw_870 tw_871 ⟨Nat.le_of_ble_eq_true rfl, Nat.le_of_ble_eq_true rfl⟩ ⟨(Nat.le_of_ble_eq_true rfl), (Nat.le_of_ble_eq_true rfl)⟩ rfl hl.1 rfl (Nat.le_of_ble_eq_true rfl) dJ5_append_cf1ce_10 (fun v9 μ9 H locs hp hM hS => ?_)
  obtain ⟨u4, rfl, e9, h⟩ := hp
  rw [e9] at hM
  refine W.cs (cells' := 0) (slots' := 0) rfl rfl ?_
  refine lv_istore_n (i := 2) (lv' := [(2, .int u4), (0, .ref o), (1, va_rf r1)]) S.1 S.2.1 dJ5_append_cf1ce_13 rfl hl (by decide) (by simp [List.filter, mz_cat]) (fun ls hl => ?_)
  refine lv_aload_n S.1 S.2.1 dJ5_append_cf1ce_14 rfl (lv_at hl 1 rfl) ?_
  refine lv_aload_n S.1 S.2.1 dJ5_append_cf1ce_15 rfl (lv_at hl 1 rfl) ?_
  obtain ⟨k5, h⟩ := h
  refine mz_geti S hG hM cf_0 fd_3 tw_332 dJ5_append_cf1ce_16 k5 ?_
  refine lv_iload_n S.1 S.2.1 dJ5_append_cf1ce_19 rfl (lv_at hl 0 rfl) ?_
  refine lv_iadd S.1 S.2.1 dJ5_append_cf1ce_20 ?_
  refine mz_V0 S hG hM hS (mz_recv hG hM cf_0 k5) (As := [.int ((mI μ 3 o) + u4)]) (rest := []) (c_J5_ensureCapacityInternal_d00df h) yf_J5_ensureCapacityInternal_d00df tw_805 tw_807 (S.2.2.2.2 _ (TT_x (i := 0) rfl (by decide +kernel))) ⟨Nat.le_of_ble_eq_true rfl, Nat.le_of_ble_eq_true rfl⟩ ⟨(Nat.le_of_ble_eq_true rfl), (Nat.le_of_ble_eq_true rfl)⟩ rfl hl.1 rfl (Nat.le_of_ble_eq_true rfl) dJ5_append_cf1ce_21 (fun v9 μ9 H locs hp hM hS => ?_)
  obtain ⟨rfl, e9, h⟩ := hp
  rw [e9] at hM
  refine W.cs (cells' := 0) (slots' := 0) rfl rfl ?_
  refine lv_aload_n S.1 S.2.1 dJ5_append_cf1ce_24 rfl (lv_at hl 1 rfl) ?_
  refine lv_aload_n S.1 S.2.1 dJ5_append_cf1ce_25 rfl (lv_at hl 1 rfl) ?_
  refine mz_geti S hG hM cf_0 fd_3 tw_332 dJ5_append_cf1ce_26 k5 ?_
  refine mz_aload_n (x := r1) S.1 S.2.1 dJ5_append_cf1ce_29 rfl (lv_at hl 2 rfl) ?_
  refine mz_V0 S hG hM hS (mz_recv hG hM cf_0 k5) (As := [.int (mI μ 3 o), va_rf r1]) (rest := []) (c_J5_putStringAt_47b60_D h) yf_J5_putStringAt_47b60 tw_878 tw_880 (S.2.2.2.2 _ (TT_x (i := 1) rfl (by decide +kernel))) ⟨Nat.le_of_ble_eq_true rfl, Nat.le_of_ble_eq_true rfl⟩ ⟨(Nat.le_of_ble_eq_true rfl), (Nat.le_of_ble_eq_true rfl)⟩ rfl hl.1 rfl (Nat.le_of_ble_eq_true rfl) dJ5_append_cf1ce_30 (fun v9 μ6 H locs hp hM hS => ?_)
  obtain ⟨rfl, h⟩ := hp
  refine W.cs (cells' := 0) (slots' := 0) rfl rfl ?_
  refine lv_aload_n S.1 S.2.1 dJ5_append_cf1ce_33 rfl (lv_at hl 1 rfl) ?_
  refine lv_dup S.1 S.2.1 dJ5_append_cf1ce_34 rfl ?_
  obtain ⟨k7, h⟩ := h
  refine mz_geti S hG hM cf_0 fd_3 tw_332 dJ5_append_cf1ce_35 k7 ?_
  refine lv_iload_n S.1 S.2.1 dJ5_append_cf1ce_38 rfl (lv_at hl 0 rfl) ?_
  refine lv_iadd S.1 S.2.1 dJ5_append_cf1ce_39 ?_
  refine mz_puti S hG hM hS cf_0 fd_3 tw_332 dJ5_append_cf1ce_40 k7 rfl rfl (fun H locs hM hS hz9 => ?_)
  refine lv_aload_n S.1 S.2.1 dJ5_append_cf1ce_43 rfl (lv_at hl 1 rfl) ?_
  exact mz_aret (x := (some o)) S hr (by first | exact Or.inl ⟨_, rfl⟩ | exact Or.inr ⟨_, rfl⟩) hlk hM hS (Nat.le_of_ble_eq_true rfl) (Nat.le_of_ble_eq_true rfl) dJ5_append_cf1ce_44 ⟨_, rfl, h⟩
set_option maxRecDepth 100000 in
set_option maxHeartbeats 4000000 in
theorem c_J4_append_15ec4_D {l : Launch} {G : mgT} {μ : mmT} {o : Nat} {r1 : Option Nat} {Q : Option Nat → mmT → Prop} (h : w_J4_append_15ec4_D G μ o r1 Q) : MC G l yJ4_append_15ec4 cJ4_append_15ec4 2 (some (.object "java/lang/StringBuilder")) { frames := 4, cells := 0, slots := 0, locals := 127 } [.ref o, va_rf r1] μ (pR Q) := by
  refine mz_MC (by decide +kernel) (by simp [lg_sl, mz_cat, mz_cr, mz_ci, mz_cl, mz_cf, mz_cd, mz_cn]) (fun p e s m args below meth c S hG hr hlk hnm => ?_)
  intro H locs ls hM hS hl
  have hl : lv_has ls 2 [(0, .ref o), (1, va_rf r1)] := by simpa [lv_args, mz_cat, mz_cr, mz_ci, mz_cl, mz_cf, mz_cd, mz_cn] using hl
  unfold w_J4_append_15ec4_D at h
  refine lv_aload_n S.1 S.2.1 dJ4_append_15ec4_0 rfl (lv_at hl 0 rfl) ?_
  refine mz_aload_n (x := r1) S.1 S.2.1 dJ4_append_15ec4_1 rfl (lv_at hl 1 rfl) ?_
  obtain ⟨k1, h⟩ := h
  refine mz_SU S hG hM hS cf_0 k1 (As := [va_rf r1]) (rest := []) (c_J5_append_cf1ce_D h) yf_J5_append_cf1ce tw_798 tw_1430 tw_341 tw_799 (by decide) ⟨Nat.le_of_ble_eq_true rfl, Nat.le_of_ble_eq_true rfl⟩ ⟨(Nat.le_of_ble_eq_true rfl), (Nat.le_of_ble_eq_true rfl)⟩ rfl hl.1 rfl (Nat.le_of_ble_eq_true rfl) dJ4_append_15ec4_2 (fun v9 μ3 H locs hp hM hS => ?_)
  obtain ⟨ru2, rfl, h⟩ := hp
  refine W.cs (cells' := 0) (slots' := 0) rfl rfl ?_
  refine lv_pop S.1 S.2.1 dJ4_append_15ec4_5 (mz_cat _) ?_
  refine lv_aload_n S.1 S.2.1 dJ4_append_15ec4_6 rfl (lv_at hl 0 rfl) ?_
  exact mz_aret (x := (some o)) S hr (by first | exact Or.inl ⟨_, rfl⟩ | exact Or.inr ⟨_, rfl⟩) hlk hM hS (Nat.le_of_ble_eq_true rfl) (Nat.le_of_ble_eq_true rfl) dJ4_append_15ec4_7 ⟨_, rfl, h⟩
set_option maxRecDepth 100000 in
set_option maxHeartbeats 4000000 in
theorem c_L_does {l : Launch} {G : mgT} {μ : mmT} {x1 : Int32} {x2 : Int32} {r3 : Option Nat} {x4 : Int32} {x5 : Int32} {Q : Int32 → mmT → Prop} (hl0 : l.stackTraces = false) (h : w_L_does G μ x1 x2 r3 x4 x5 Q) : MC G l yL_does cL_does 9 (some .int) { frames := 10, cells := 25, slots := 182, locals := 259 } [.ref (gX G 5), .int x1, .int x2, va_rf r3, .int x4, .int x5] μ (pI Q) := by
  refine mz_MC (by decide +kernel) (by simp [lg_sl, mz_cat, mz_cr, mz_ci, mz_cl, mz_cf, mz_cd, mz_cn]) (fun p e s m args below meth c S hG hr hlk hnm => ?_)
  have hB324 : ∀ (r3 : Option Nat) (x4 : Int32) (x6 : Int32) (x8 : Int32) (μ : mmT) (H : Heap) (locs : List Loc) (ls : Array Slot), Mm G μ H → va_S (Ah G) s.heap H locs → lv_has ls 9 [(0, .ref (gX G 5)), (3, va_rf r3), (4, .int x4), (6, .int x6), (8, .int x8)] → w_L_does_b324 G Q  r3 x4 x6 x8 μ → W p l e { frames := 10, cells := 25, slots := 182, locals := 259 } s m args below meth c H locs (0) (0) (MQ below (mQ G (pI Q)) args s 25 182 (Ah G)) (F0 m 324 ls []) := by
    intro  r3 x4 x6 x8 μ H locs ls hM hS hl h
    unfold w_L_does_b324 at h
    refine mz_aload_n (x := r3) S.1 S.2.1 dL_does_324 rfl (lv_at hl 1 rfl) ?_
    obtain ⟨zz10, hz⟩ : ∃ z9 : Nat, H.size = z9 := ⟨_, rfl⟩
    have h := h zz10 (fun a9 q9 => by rw [← hz]; exact (hM a9 q9).2.1)
    have hg : gh G ≤ zz10 := by rw [← hz]; exact Nat.le_trans hG.low hS.1
    refine mz_new S hG hM hS hz hg cf_0 nv_0 tw_791 tw_312 tw_13 (Nat.le_of_ble_eq_true rfl) (Nat.le_of_ble_eq_true rfl) dL_does_325 (fun H hM hS hz => ?_)
    have hg := Nat.le_succ_of_le hg
    refine W.cs (cells' := 1) (slots' := 4) rfl rfl ?_
    refine lv_dup S.1 S.2.1 dL_does_328 rfl ?_
    obtain ⟨k11, h⟩ := h
    refine mz_I S hG hM hS hz hg (As := []) (rest := [.ref zz10, va_rf r3]) (c_J4_init_da8c8 h) yf_J4_init_da8c8 rfl tw_792 tw_314 ⟨Nat.le_of_ble_eq_true rfl, Nat.le_of_ble_eq_true rfl⟩ ⟨(Nat.le_of_ble_eq_true rfl), (Nat.le_of_ble_eq_true rfl)⟩ rfl hl.1 rfl (by simp [mz_cat, mz_cr, mz_ci, mz_cl, mz_cf, mz_cd, mz_cn]) dL_does_329 (fun μ12 z13 H locs h hM hS hg hz => ?_)
    refine W.cs (cells' := 2) (slots' := 20) rfl rfl ?_
    refine va_ldcS (q := gS G 8) S.1 S.2.1 S.2.2.2.1 (hG.2.2.2.2.2.1 8 ("CrowMailLaw", 254, "wait ") rfl) dL_does_332 ?_
    obtain ⟨k14, h⟩ := h
    refine mz_V S hG hM hS cf_0 k14 (As := [.ref (gS G 8)]) (rest := [va_rf r3]) (c_J4_append_15ec4 h) yf_J4_append_15ec4 tw_794 tw_795 tw_796 ⟨Nat.le_of_ble_eq_true rfl, Nat.le_of_ble_eq_true rfl⟩ ⟨(Nat.le_of_ble_eq_true rfl), (Nat.le_of_ble_eq_true rfl)⟩ rfl hl.1 rfl (by simp [mz_cat, mz_cr, mz_ci, mz_cl, mz_cf, mz_cd, mz_cn]) dL_does_334 (fun v9 μ16 H locs hp hM hS => ?_)
    obtain ⟨ru15, rfl, h⟩ := hp
    refine W.cs (cells' := 2) (slots' := 20) rfl rfl ?_
    refine lv_iconst (v := (nI 1)) S.1 S.2.1 dL_does_337 (by decide) ?_
    refine lv_iload S.1 S.2.1 dL_does_338 (lv_at hl 3 rfl) ?_
    refine lv_bipush (v := (nI 9)) S.1 S.2.1 dL_does_340 (by decide) ?_
    refine lv_irem S.1 S.2.1 dL_does_342 (by decide) ?_
    refine lv_iadd S.1 S.2.1 dL_does_343 ?_
    obtain ⟨a18, e19, h⟩ := h
    refine mz_o1 e19 ?_
    obtain ⟨k20, h⟩ := h
    refine mz_V S hG hM hS cf_0 k20 (As := [.int ((nI 1) + (x6 - x6 / (nI 9) * (nI 9)))]) (rest := [va_rf r3]) (c_J4_append_bf812 h) yf_J4_append_bf812 tw_912 tw_913 tw_914 ⟨Nat.le_of_ble_eq_true rfl, Nat.le_of_ble_eq_true rfl⟩ ⟨(Nat.le_of_ble_eq_true rfl), (Nat.le_of_ble_eq_true rfl)⟩ rfl hl.1 rfl (by simp [mz_cat, mz_cr, mz_ci, mz_cl, mz_cf, mz_cd, mz_cn]) dL_does_344 (fun v9 μ22 H locs hp hM hS => ?_)
    obtain ⟨ru21, rfl, h⟩ := hp
    refine W.cs (cells' := 2) (slots' := 20) rfl rfl ?_
    refine lv_iload S.1 S.2.1 dL_does_347 (lv_at hl 3 rfl) ?_
    refine lv_iconst (v := (nI 4)) S.1 S.2.1 dL_does_349 (by decide) ?_
    refine lv_irem S.1 S.2.1 dL_does_350 (by decide) ?_
    refine lv_if_ne (tgt := 392) S.1 S.2.1 dL_does_351 (by decide) (fun c24 => ?_) (fun c24 => ?_)
    · have h := h.1 c24
      refine lv_iload S.1 S.2.1 dL_does_392 (lv_at hl 3 rfl) ?_
      refine lv_iconst (v := (nI 4)) S.1 S.2.1 dL_does_394 (by decide) ?_
      refine lv_irem S.1 S.2.1 dL_does_395 (by decide) ?_
      refine lv_iconst (v := (nI 1)) S.1 S.2.1 dL_does_396 (by decide) ?_
      refine lv_icmp_ne (tgt := 424) S.1 S.2.1 dL_does_397 (by decide) (fun c26 => ?_) (fun c26 => ?_)
      · have h := h.1 c26
        refine lv_iload S.1 S.2.1 dL_does_424 (lv_at hl 3 rfl) ?_
        refine lv_iconst (v := (nI 4)) S.1 S.2.1 dL_does_426 (by decide) ?_
        refine lv_irem S.1 S.2.1 dL_does_427 (by decide) ?_
        refine lv_iconst (v := (nI 2)) S.1 S.2.1 dL_does_428 (by decide) ?_
        refine lv_icmp_ne (tgt := 456) S.1 S.2.1 dL_does_429 (by decide) (fun c28 => ?_) (fun c28 => ?_)
        · have h := h.1 c28
          refine va_ldcSw (q := gS G 14) S.1 S.2.1 S.2.2.2.1 (hG.2.2.2.2.2.1 14 ("CrowMailLaw", 275, ";") rfl) dL_does_456 ?_
          obtain ⟨a29, e30, h⟩ := h
          refine mz_o1 e30 ?_
          obtain ⟨k31, h⟩ := h
          refine mz_V S hG hM hS cf_0 k31 (As := [.ref (gS G 14)]) (rest := [va_rf r3]) (c_J4_append_15ec4 h) yf_J4_append_15ec4 tw_794 tw_795 tw_796 ⟨Nat.le_of_ble_eq_true rfl, Nat.le_of_ble_eq_true rfl⟩ ⟨(Nat.le_of_ble_eq_true rfl), (Nat.le_of_ble_eq_true rfl)⟩ rfl hl.1 rfl (by simp [mz_cat, mz_cr, mz_ci, mz_cl, mz_cf, mz_cd, mz_cn]) dL_does_459 (fun v9 μ33 H locs hp hM hS => ?_)
          obtain ⟨ru32, rfl, h⟩ := hp
          refine W.cs (cells' := 2) (slots' := 20) rfl rfl ?_
          obtain ⟨a34, e35, h⟩ := h
          refine mz_o0 e35 ?_
          obtain ⟨k36, h⟩ := h
          refine mz_V S hG hM hS cf_0 k36 (As := []) (rest := [va_rf r3]) (c_J4_toString_0e30d h) yf_J4_toString_0e30d tw_939 tw_940 tw_941 ⟨Nat.le_of_ble_eq_true rfl, Nat.le_of_ble_eq_true rfl⟩ ⟨(Nat.le_of_ble_eq_true rfl), (Nat.le_of_ble_eq_true rfl)⟩ rfl hl.1 rfl (by simp [mz_cat, mz_cr, mz_ci, mz_cl, mz_cf, mz_cd, mz_cn]) dL_does_462 (fun v9 μ38 H locs hp hM hS => ?_)
          obtain ⟨ru37, rfl, h⟩ := hp
          refine W.cs (cells' := 4) (slots' := 40) rfl rfl ?_
          refine mz_S S hG hM hS (As := [va_rf r3, va_rf ru37]) (rest := []) (c_L_runs hl0 h) yf_L_runs tw_1005 tw_1006 ⟨Nat.le_of_ble_eq_true rfl, Nat.le_of_ble_eq_true rfl⟩ ⟨(Nat.le_of_ble_eq_true rfl), (Nat.le_of_ble_eq_true rfl)⟩ rfl hl.1 rfl (Nat.le_of_ble_eq_true rfl) dL_does_465 (fun v9 μ40 H locs hp hM hS => ?_)
          obtain ⟨u39, rfl, h⟩ := hp
          refine W.cs (cells' := 21) (slots' := 142) rfl rfl ?_
          exact mz_iret S hr hlk hM hS rfl (Nat.le_of_ble_eq_true rfl) (Nat.le_of_ble_eq_true rfl) dL_does_468 ⟨_, rfl, h⟩
        · have h := h.2 c28
          obtain ⟨zz41, hz⟩ : ∃ z9 : Nat, H.size = z9 := ⟨_, rfl⟩
          have h := h zz41 (fun a9 q9 => by rw [← hz]; exact (hM a9 q9).2.1)
          have hg : gh G ≤ zz41 := by rw [← hz]; exact Nat.le_trans hG.low hS.1
          refine mz_new S hG hM hS hz hg cf_0 nv_0 tw_791 tw_312 tw_13 (Nat.le_of_ble_eq_true rfl) (Nat.le_of_ble_eq_true rfl) dL_does_432 (fun H hM hS hz => ?_)
          have hg := Nat.le_succ_of_le hg
          refine W.cs (cells' := 3) (slots' := 24) rfl rfl ?_
          refine lv_dup S.1 S.2.1 dL_does_435 rfl ?_
          obtain ⟨k42, h⟩ := h
          refine mz_I S hG hM hS hz hg (As := []) (rest := [.ref zz41, va_rf ru21, va_rf r3]) (c_J4_init_da8c8 h) yf_J4_init_da8c8 rfl tw_792 tw_314 ⟨Nat.le_of_ble_eq_true rfl, Nat.le_of_ble_eq_true rfl⟩ ⟨(Nat.le_of_ble_eq_true rfl), (Nat.le_of_ble_eq_true rfl)⟩ rfl hl.1 rfl (by simp [mz_cat, mz_cr, mz_ci, mz_cl, mz_cf, mz_cd, mz_cn]) dL_does_436 (fun μ43 z44 H locs h hM hS hg hz => ?_)
          refine W.cs (cells' := 4) (slots' := 40) rfl rfl ?_
          refine va_ldcSw (q := gS G 13) S.1 S.2.1 S.2.2.2.1 (hG.2.2.2.2.2.1 13 ("CrowMailLaw", 273, ";read ") rfl) dL_does_439 ?_
          obtain ⟨k45, h⟩ := h
          refine mz_V S hG hM hS cf_0 k45 (As := [.ref (gS G 13)]) (rest := [va_rf ru21, va_rf r3]) (c_J4_append_15ec4 h) yf_J4_append_15ec4 tw_794 tw_795 tw_796 ⟨Nat.le_of_ble_eq_true rfl, Nat.le_of_ble_eq_true rfl⟩ ⟨(Nat.le_of_ble_eq_true rfl), (Nat.le_of_ble_eq_true rfl)⟩ rfl hl.1 rfl (by simp [mz_cat, mz_cr, mz_ci, mz_cl, mz_cf, mz_cd, mz_cn]) dL_does_442 (fun v9 μ47 H locs hp hM hS => ?_)
          obtain ⟨ru46, rfl, h⟩ := hp
          refine W.cs (cells' := 4) (slots' := 40) rfl rfl ?_
          refine lv_iload S.1 S.2.1 dL_does_445 (lv_at hl 4 rfl) ?_
          obtain ⟨a48, e49, h⟩ := h
          refine mz_o1 e49 ?_
          obtain ⟨k50, h⟩ := h
          refine mz_V S hG hM hS cf_0 k50 (As := [.int x8]) (rest := [va_rf ru21, va_rf r3]) (c_J4_append_bf812 h) yf_J4_append_bf812 tw_912 tw_913 tw_914 ⟨Nat.le_of_ble_eq_true rfl, Nat.le_of_ble_eq_true rfl⟩ ⟨(Nat.le_of_ble_eq_true rfl), (Nat.le_of_ble_eq_true rfl)⟩ rfl hl.1 rfl (by simp [mz_cat, mz_cr, mz_ci, mz_cl, mz_cf, mz_cd, mz_cn]) dL_does_447 (fun v9 μ52 H locs hp hM hS => ?_)
          obtain ⟨ru51, rfl, h⟩ := hp
          refine W.cs (cells' := 4) (slots' := 40) rfl rfl ?_
          obtain ⟨a53, e54, h⟩ := h
          refine mz_o0 e54 ?_
          obtain ⟨k55, h⟩ := h
          refine mz_V S hG hM hS cf_0 k55 (As := []) (rest := [va_rf ru21, va_rf r3]) (c_J4_toString_0e30d h) yf_J4_toString_0e30d tw_939 tw_940 tw_941 ⟨Nat.le_of_ble_eq_true rfl, Nat.le_of_ble_eq_true rfl⟩ ⟨(Nat.le_of_ble_eq_true rfl), (Nat.le_of_ble_eq_true rfl)⟩ rfl hl.1 rfl (by simp [mz_cat, mz_cr, mz_ci, mz_cl, mz_cf, mz_cd, mz_cn]) dL_does_450 (fun v9 μ57 H locs hp hM hS => ?_)
          obtain ⟨ru56, rfl, h⟩ := hp
          refine W.cs (cells' := 6) (slots' := 60) rfl rfl ?_
          refine lv_goto (tgt := 459) S.1 S.2.1 dL_does_453 (by decide) ?_
          obtain ⟨a58, e59, h⟩ := h
          refine mz_o1 e59 ?_
          obtain ⟨k60, h⟩ := h
          refine mz_V S hG hM hS cf_0 k60 (As := [va_rf ru56]) (rest := [va_rf r3]) (c_J4_append_15ec4_D h) yf_J4_append_15ec4 tw_794 tw_795 tw_796 ⟨Nat.le_of_ble_eq_true rfl, Nat.le_of_ble_eq_true rfl⟩ ⟨(Nat.le_of_ble_eq_true rfl), (Nat.le_of_ble_eq_true rfl)⟩ rfl hl.1 rfl (by simp [mz_cat, mz_cr, mz_ci, mz_cl, mz_cf, mz_cd, mz_cn]) dL_does_459 (fun v9 μ62 H locs hp hM hS => ?_)
          obtain ⟨ru61, rfl, h⟩ := hp
          refine W.cs (cells' := 6) (slots' := 60) rfl rfl ?_
          obtain ⟨a63, e64, h⟩ := h
          refine mz_o0 e64 ?_
          obtain ⟨k65, h⟩ := h
          refine mz_V S hG hM hS cf_0 k65 (As := []) (rest := [va_rf r3]) (c_J4_toString_0e30d h) yf_J4_toString_0e30d tw_939 tw_940 tw_941 ⟨Nat.le_of_ble_eq_true rfl, Nat.le_of_ble_eq_true rfl⟩ ⟨(Nat.le_of_ble_eq_true rfl), (Nat.le_of_ble_eq_true rfl)⟩ rfl hl.1 rfl (by simp [mz_cat, mz_cr, mz_ci, mz_cl, mz_cf, mz_cd, mz_cn]) dL_does_462 (fun v9 μ67 H locs hp hM hS => ?_)
          obtain ⟨ru66, rfl, h⟩ := hp
          refine W.cs (cells' := 8) (slots' := 80) rfl rfl ?_
          refine mz_S S hG hM hS (As := [va_rf r3, va_rf ru66]) (rest := []) (c_L_runs hl0 h) yf_L_runs tw_1005 tw_1006 ⟨Nat.le_of_ble_eq_true rfl, Nat.le_of_ble_eq_true rfl⟩ ⟨(Nat.le_of_ble_eq_true rfl), (Nat.le_of_ble_eq_true rfl)⟩ rfl hl.1 rfl (Nat.le_of_ble_eq_true rfl) dL_does_465 (fun v9 μ69 H locs hp hM hS => ?_)
          obtain ⟨u68, rfl, h⟩ := hp
          refine W.cs (cells' := 25) (slots' := 182) rfl rfl ?_
          exact mz_iret S hr hlk hM hS rfl (Nat.le_of_ble_eq_true rfl) (Nat.le_of_ble_eq_true rfl) dL_does_468 ⟨_, rfl, h⟩
      · have h := h.2 c26
        obtain ⟨zz70, hz⟩ : ∃ z9 : Nat, H.size = z9 := ⟨_, rfl⟩
        have h := h zz70 (fun a9 q9 => by rw [← hz]; exact (hM a9 q9).2.1)
        have hg : gh G ≤ zz70 := by rw [← hz]; exact Nat.le_trans hG.low hS.1
        refine mz_new S hG hM hS hz hg cf_0 nv_0 tw_791 tw_312 tw_13 (Nat.le_of_ble_eq_true rfl) (Nat.le_of_ble_eq_true rfl) dL_does_400 (fun H hM hS hz => ?_)
        have hg := Nat.le_succ_of_le hg
        refine W.cs (cells' := 3) (slots' := 24) rfl rfl ?_
        refine lv_dup S.1 S.2.1 dL_does_403 rfl ?_
        obtain ⟨k71, h⟩ := h
        refine mz_I S hG hM hS hz hg (As := []) (rest := [.ref zz70, va_rf ru21, va_rf r3]) (c_J4_init_da8c8 h) yf_J4_init_da8c8 rfl tw_792 tw_314 ⟨Nat.le_of_ble_eq_true rfl, Nat.le_of_ble_eq_true rfl⟩ ⟨(Nat.le_of_ble_eq_true rfl), (Nat.le_of_ble_eq_true rfl)⟩ rfl hl.1 rfl (by simp [mz_cat, mz_cr, mz_ci, mz_cl, mz_cf, mz_cd, mz_cn]) dL_does_404 (fun μ72 z73 H locs h hM hS hg hz => ?_)
        refine W.cs (cells' := 4) (slots' := 40) rfl rfl ?_
        refine va_ldcSw (q := gS G 12) S.1 S.2.1 S.2.2.2.1 (hG.2.2.2.2.2.1 12 ("CrowMailLaw", 271, ";drop ") rfl) dL_does_407 ?_
        obtain ⟨k74, h⟩ := h
        refine mz_V S hG hM hS cf_0 k74 (As := [.ref (gS G 12)]) (rest := [va_rf ru21, va_rf r3]) (c_J4_append_15ec4 h) yf_J4_append_15ec4 tw_794 tw_795 tw_796 ⟨Nat.le_of_ble_eq_true rfl, Nat.le_of_ble_eq_true rfl⟩ ⟨(Nat.le_of_ble_eq_true rfl), (Nat.le_of_ble_eq_true rfl)⟩ rfl hl.1 rfl (by simp [mz_cat, mz_cr, mz_ci, mz_cl, mz_cf, mz_cd, mz_cn]) dL_does_410 (fun v9 μ76 H locs hp hM hS => ?_)
        obtain ⟨ru75, rfl, h⟩ := hp
        refine W.cs (cells' := 4) (slots' := 40) rfl rfl ?_
        refine lv_iload S.1 S.2.1 dL_does_413 (lv_at hl 2 rfl) ?_
        obtain ⟨a77, e78, h⟩ := h
        refine mz_o1 e78 ?_
        obtain ⟨k79, h⟩ := h
        refine mz_V S hG hM hS cf_0 k79 (As := [.int x4]) (rest := [va_rf ru21, va_rf r3]) (c_J4_append_bf812 h) yf_J4_append_bf812 tw_912 tw_913 tw_914 ⟨Nat.le_of_ble_eq_true rfl, Nat.le_of_ble_eq_true rfl⟩ ⟨(Nat.le_of_ble_eq_true rfl), (Nat.le_of_ble_eq_true rfl)⟩ rfl hl.1 rfl (by simp [mz_cat, mz_cr, mz_ci, mz_cl, mz_cf, mz_cd, mz_cn]) dL_does_415 (fun v9 μ81 H locs hp hM hS => ?_)
        obtain ⟨ru80, rfl, h⟩ := hp
        refine W.cs (cells' := 4) (slots' := 40) rfl rfl ?_
        obtain ⟨a82, e83, h⟩ := h
        refine mz_o0 e83 ?_
        obtain ⟨k84, h⟩ := h
        refine mz_V S hG hM hS cf_0 k84 (As := []) (rest := [va_rf ru21, va_rf r3]) (c_J4_toString_0e30d h) yf_J4_toString_0e30d tw_939 tw_940 tw_941 ⟨Nat.le_of_ble_eq_true rfl, Nat.le_of_ble_eq_true rfl⟩ ⟨(Nat.le_of_ble_eq_true rfl), (Nat.le_of_ble_eq_true rfl)⟩ rfl hl.1 rfl (by simp [mz_cat, mz_cr, mz_ci, mz_cl, mz_cf, mz_cd, mz_cn]) dL_does_418 (fun v9 μ86 H locs hp hM hS => ?_)
        obtain ⟨ru85, rfl, h⟩ := hp
        refine W.cs (cells' := 6) (slots' := 60) rfl rfl ?_
        refine lv_goto (tgt := 459) S.1 S.2.1 dL_does_421 (by decide) ?_
        obtain ⟨a87, e88, h⟩ := h
        refine mz_o1 e88 ?_
        obtain ⟨k89, h⟩ := h
        refine mz_V S hG hM hS cf_0 k89 (As := [va_rf ru85]) (rest := [va_rf r3]) (c_J4_append_15ec4_D h) yf_J4_append_15ec4 tw_794 tw_795 tw_796 ⟨Nat.le_of_ble_eq_true rfl, Nat.le_of_ble_eq_true rfl⟩ ⟨(Nat.le_of_ble_eq_true rfl), (Nat.le_of_ble_eq_true rfl)⟩ rfl hl.1 rfl (by simp [mz_cat, mz_cr, mz_ci, mz_cl, mz_cf, mz_cd, mz_cn]) dL_does_459 (fun v9 μ91 H locs hp hM hS => ?_)
        obtain ⟨ru90, rfl, h⟩ := hp
        refine W.cs (cells' := 6) (slots' := 60) rfl rfl ?_
        obtain ⟨a92, e93, h⟩ := h
        refine mz_o0 e93 ?_
        obtain ⟨k94, h⟩ := h
        refine mz_V S hG hM hS cf_0 k94 (As := []) (rest := [va_rf r3]) (c_J4_toString_0e30d h) yf_J4_toString_0e30d tw_939 tw_940 tw_941 ⟨Nat.le_of_ble_eq_true rfl, Nat.le_of_ble_eq_true rfl⟩ ⟨(Nat.le_of_ble_eq_true rfl), (Nat.le_of_ble_eq_true rfl)⟩ rfl hl.1 rfl (by simp [mz_cat, mz_cr, mz_ci, mz_cl, mz_cf, mz_cd, mz_cn]) dL_does_462 (fun v9 μ96 H locs hp hM hS => ?_)
        obtain ⟨ru95, rfl, h⟩ := hp
        refine W.cs (cells' := 8) (slots' := 80) rfl rfl ?_
        refine mz_S S hG hM hS (As := [va_rf r3, va_rf ru95]) (rest := []) (c_L_runs hl0 h) yf_L_runs tw_1005 tw_1006 ⟨Nat.le_of_ble_eq_true rfl, Nat.le_of_ble_eq_true rfl⟩ ⟨(Nat.le_of_ble_eq_true rfl), (Nat.le_of_ble_eq_true rfl)⟩ rfl hl.1 rfl (Nat.le_of_ble_eq_true rfl) dL_does_465 (fun v9 μ98 H locs hp hM hS => ?_)
        obtain ⟨u97, rfl, h⟩ := hp
        refine W.cs (cells' := 25) (slots' := 182) rfl rfl ?_
        exact mz_iret S hr hlk hM hS rfl (Nat.le_of_ble_eq_true rfl) (Nat.le_of_ble_eq_true rfl) dL_does_468 ⟨_, rfl, h⟩
    · have h := h.2 c24
      obtain ⟨zz99, hz⟩ : ∃ z9 : Nat, H.size = z9 := ⟨_, rfl⟩
      have h := h zz99 (fun a9 q9 => by rw [← hz]; exact (hM a9 q9).2.1)
      have hg : gh G ≤ zz99 := by rw [← hz]; exact Nat.le_trans hG.low hS.1
      refine mz_new S hG hM hS hz hg cf_0 nv_0 tw_791 tw_312 tw_13 (Nat.le_of_ble_eq_true rfl) (Nat.le_of_ble_eq_true rfl) dL_does_354 (fun H hM hS hz => ?_)
      have hg := Nat.le_succ_of_le hg
      refine W.cs (cells' := 3) (slots' := 24) rfl rfl ?_
      refine lv_dup S.1 S.2.1 dL_does_357 rfl ?_
      obtain ⟨k100, h⟩ := h
      refine mz_I S hG hM hS hz hg (As := []) (rest := [.ref zz99, va_rf ru21, va_rf r3]) (c_J4_init_da8c8 h) yf_J4_init_da8c8 rfl tw_792 tw_314 ⟨Nat.le_of_ble_eq_true rfl, Nat.le_of_ble_eq_true rfl⟩ ⟨(Nat.le_of_ble_eq_true rfl), (Nat.le_of_ble_eq_true rfl)⟩ rfl hl.1 rfl (by simp [mz_cat, mz_cr, mz_ci, mz_cl, mz_cf, mz_cd, mz_cn]) dL_does_358 (fun μ101 z102 H locs h hM hS hg hz => ?_)
      refine W.cs (cells' := 4) (slots' := 40) rfl rfl ?_
      refine va_ldcSw (q := gS G 9) S.1 S.2.1 S.2.2.2.1 (hG.2.2.2.2.2.1 9 ("CrowMailLaw", 263, ";send ") rfl) dL_does_361 ?_
      obtain ⟨k103, h⟩ := h
      refine mz_V S hG hM hS cf_0 k103 (As := [.ref (gS G 9)]) (rest := [va_rf ru21, va_rf r3]) (c_J4_append_15ec4 h) yf_J4_append_15ec4 tw_794 tw_795 tw_796 ⟨Nat.le_of_ble_eq_true rfl, Nat.le_of_ble_eq_true rfl⟩ ⟨(Nat.le_of_ble_eq_true rfl), (Nat.le_of_ble_eq_true rfl)⟩ rfl hl.1 rfl (by simp [mz_cat, mz_cr, mz_ci, mz_cl, mz_cf, mz_cd, mz_cn]) dL_does_364 (fun v9 μ105 H locs hp hM hS => ?_)
      obtain ⟨ru104, rfl, h⟩ := hp
      refine W.cs (cells' := 4) (slots' := 40) rfl rfl ?_
      refine lv_iload S.1 S.2.1 dL_does_367 (lv_at hl 4 rfl) ?_
      obtain ⟨a106, e107, h⟩ := h
      refine mz_o1 e107 ?_
      obtain ⟨k108, h⟩ := h
      refine mz_V S hG hM hS cf_0 k108 (As := [.int x8]) (rest := [va_rf ru21, va_rf r3]) (c_J4_append_bf812 h) yf_J4_append_bf812 tw_912 tw_913 tw_914 ⟨Nat.le_of_ble_eq_true rfl, Nat.le_of_ble_eq_true rfl⟩ ⟨(Nat.le_of_ble_eq_true rfl), (Nat.le_of_ble_eq_true rfl)⟩ rfl hl.1 rfl (by simp [mz_cat, mz_cr, mz_ci, mz_cl, mz_cf, mz_cd, mz_cn]) dL_does_369 (fun v9 μ110 H locs hp hM hS => ?_)
      obtain ⟨ru109, rfl, h⟩ := hp
      refine W.cs (cells' := 4) (slots' := 40) rfl rfl ?_
      refine va_ldcSw (q := gS G 10) S.1 S.2.1 S.2.2.2.1 (hG.2.2.2.2.2.1 10 ("CrowMailLaw", 265, " ") rfl) dL_does_372 ?_
      obtain ⟨a111, e112, h⟩ := h
      refine mz_o1 e112 ?_
      obtain ⟨k113, h⟩ := h
      refine mz_V S hG hM hS cf_0 k113 (As := [.ref (gS G 10)]) (rest := [va_rf ru21, va_rf r3]) (c_J4_append_15ec4 h) yf_J4_append_15ec4 tw_794 tw_795 tw_796 ⟨Nat.le_of_ble_eq_true rfl, Nat.le_of_ble_eq_true rfl⟩ ⟨(Nat.le_of_ble_eq_true rfl), (Nat.le_of_ble_eq_true rfl)⟩ rfl hl.1 rfl (by simp [mz_cat, mz_cr, mz_ci, mz_cl, mz_cf, mz_cd, mz_cn]) dL_does_375 (fun v9 μ115 H locs hp hM hS => ?_)
      obtain ⟨ru114, rfl, h⟩ := hp
      refine W.cs (cells' := 4) (slots' := 40) rfl rfl ?_
      refine lv_iload S.1 S.2.1 dL_does_378 (lv_at hl 3 rfl) ?_
      refine lv_bipush (v := (nI 20)) S.1 S.2.1 dL_does_380 (by decide) ?_
      refine lv_irem S.1 S.2.1 dL_does_382 (by decide) ?_
      obtain ⟨a117, e118, h⟩ := h
      refine mz_o1 e118 ?_
      obtain ⟨k119, h⟩ := h
      refine mz_V S hG hM hS cf_0 k119 (As := [.int (x6 - x6 / (nI 20) * (nI 20))]) (rest := [va_rf ru21, va_rf r3]) (c_J4_append_bf812 h) yf_J4_append_bf812 tw_912 tw_913 tw_914 ⟨Nat.le_of_ble_eq_true rfl, Nat.le_of_ble_eq_true rfl⟩ ⟨(Nat.le_of_ble_eq_true rfl), (Nat.le_of_ble_eq_true rfl)⟩ rfl hl.1 rfl (by simp [mz_cat, mz_cr, mz_ci, mz_cl, mz_cf, mz_cd, mz_cn]) dL_does_383 (fun v9 μ121 H locs hp hM hS => ?_)
      obtain ⟨ru120, rfl, h⟩ := hp
      refine W.cs (cells' := 4) (slots' := 40) rfl rfl ?_
      obtain ⟨a122, e123, h⟩ := h
      refine mz_o0 e123 ?_
      obtain ⟨k124, h⟩ := h
      refine mz_V S hG hM hS cf_0 k124 (As := []) (rest := [va_rf ru21, va_rf r3]) (c_J4_toString_0e30d h) yf_J4_toString_0e30d tw_939 tw_940 tw_941 ⟨Nat.le_of_ble_eq_true rfl, Nat.le_of_ble_eq_true rfl⟩ ⟨(Nat.le_of_ble_eq_true rfl), (Nat.le_of_ble_eq_true rfl)⟩ rfl hl.1 rfl (by simp [mz_cat, mz_cr, mz_ci, mz_cl, mz_cf, mz_cd, mz_cn]) dL_does_386 (fun v9 μ126 H locs hp hM hS => ?_)
      obtain ⟨ru125, rfl, h⟩ := hp
      refine W.cs (cells' := 6) (slots' := 60) rfl rfl ?_
      refine lv_goto (tgt := 459) S.1 S.2.1 dL_does_389 (by decide) ?_
      obtain ⟨a127, e128, h⟩ := h
      refine mz_o1 e128 ?_
      obtain ⟨k129, h⟩ := h
      refine mz_V S hG hM hS cf_0 k129 (As := [va_rf ru125]) (rest := [va_rf r3]) (c_J4_append_15ec4_D h) yf_J4_append_15ec4 tw_794 tw_795 tw_796 ⟨Nat.le_of_ble_eq_true rfl, Nat.le_of_ble_eq_true rfl⟩ ⟨(Nat.le_of_ble_eq_true rfl), (Nat.le_of_ble_eq_true rfl)⟩ rfl hl.1 rfl (by simp [mz_cat, mz_cr, mz_ci, mz_cl, mz_cf, mz_cd, mz_cn]) dL_does_459 (fun v9 μ131 H locs hp hM hS => ?_)
      obtain ⟨ru130, rfl, h⟩ := hp
      refine W.cs (cells' := 6) (slots' := 60) rfl rfl ?_
      obtain ⟨a132, e133, h⟩ := h
      refine mz_o0 e133 ?_
      obtain ⟨k134, h⟩ := h
      refine mz_V S hG hM hS cf_0 k134 (As := []) (rest := [va_rf r3]) (c_J4_toString_0e30d h) yf_J4_toString_0e30d tw_939 tw_940 tw_941 ⟨Nat.le_of_ble_eq_true rfl, Nat.le_of_ble_eq_true rfl⟩ ⟨(Nat.le_of_ble_eq_true rfl), (Nat.le_of_ble_eq_true rfl)⟩ rfl hl.1 rfl (by simp [mz_cat, mz_cr, mz_ci, mz_cl, mz_cf, mz_cd, mz_cn]) dL_does_462 (fun v9 μ136 H locs hp hM hS => ?_)
      obtain ⟨ru135, rfl, h⟩ := hp
      refine W.cs (cells' := 8) (slots' := 80) rfl rfl ?_
      refine mz_S S hG hM hS (As := [va_rf r3, va_rf ru135]) (rest := []) (c_L_runs hl0 h) yf_L_runs tw_1005 tw_1006 ⟨Nat.le_of_ble_eq_true rfl, Nat.le_of_ble_eq_true rfl⟩ ⟨(Nat.le_of_ble_eq_true rfl), (Nat.le_of_ble_eq_true rfl)⟩ rfl hl.1 rfl (Nat.le_of_ble_eq_true rfl) dL_does_465 (fun v9 μ138 H locs hp hM hS => ?_)
      obtain ⟨u137, rfl, h⟩ := hp
      refine W.cs (cells' := 25) (slots' := 182) rfl rfl ?_
      exact mz_iret S hr hlk hM hS rfl (Nat.le_of_ble_eq_true rfl) (Nat.le_of_ble_eq_true rfl) dL_does_468 ⟨_, rfl, h⟩
  have hB242 : ∀ (x7 : Int32) (s0 : Option Nat) (s1 : Int32) (μ : mmT) (H : Heap) (locs : List Loc) (ls : Array Slot), Mm G μ H → va_S (Ah G) s.heap H locs → lv_has ls 9 [(0, .ref (gX G 5)), (7, .int x7)] → w_L_does_b242 G Q  x7 s0 s1 μ → W p l e { frames := 10, cells := 25, slots := 182, locals := 259 } s m args below meth c H locs (0) (0) (MQ below (mQ G (pI Q)) args s 25 182 (Ah G)) (F0 m 242 ls [.int s1, va_rf s0]) := by
    intro  x7 s0 s1 μ H locs ls hM hS hl h
    unfold w_L_does_b242 at h
    refine lv_iload S.1 S.2.1 dL_does_242 (lv_at hl 1 rfl) ?_
    refine lv_bipush (v := (nI 11)) S.1 S.2.1 dL_does_244 (by decide) ?_
    refine lv_idiv S.1 S.2.1 dL_does_246 (by decide) ?_
    refine lv_bipush (v := (nI 6)) S.1 S.2.1 dL_does_247 (by decide) ?_
    refine lv_irem S.1 S.2.1 dL_does_249 (by decide) ?_
    refine mz_SH S hG hM hS (As := [va_rf s0, .int s1, .int ((x7 / (nI 11)) - (x7 / (nI 11)) / (nI 6) * (nI 6))]) (rest := []) (c_L_addNest hl0 h) yh_L_addNest tw_631 tw_632 ⟨Nat.le_of_ble_eq_true rfl, Nat.le_of_ble_eq_true rfl⟩ ⟨(Nat.le_of_ble_eq_true rfl), (Nat.le_of_ble_eq_true rfl)⟩ rfl hl.1 rfl (Nat.le_of_ble_eq_true rfl) dL_does_250 (fun v9 μ145 H locs hp hM hS => ?_)
    obtain ⟨u144, rfl, h⟩ := hp
    refine W.cs (cells' := 1) (slots' := 6) rfl rfl ?_
    exact mz_iret S hr hlk hM hS rfl (Nat.le_of_ble_eq_true rfl) (Nat.le_of_ble_eq_true rfl) dL_does_253 ⟨_, rfl, h⟩
  have hB220 : ∀ (r3 : Option Nat) (x6 : Int32) (x7 : Int32) (μ : mmT) (H : Heap) (locs : List Loc) (ls : Array Slot), Mm G μ H → va_S (Ah G) s.heap H locs → lv_has ls 9 [(0, .ref (gX G 5)), (3, va_rf r3), (6, .int x6), (7, .int x7)] → w_L_does_b220 G Q  r3 x6 x7 μ → W p l e { frames := 10, cells := 25, slots := 182, locals := 259 } s m args below meth c H locs (0) (0) (MQ below (mQ G (pI Q)) args s 25 182 (Ah G)) (F0 m 220 ls []) := by
    intro  r3 x6 x7 μ H locs ls hM hS hl h
    unfold w_L_does_b220 at h
    refine mz_aload_n (x := r3) S.1 S.2.1 dL_does_220 rfl (lv_at hl 1 rfl) ?_
    refine lv_iload S.1 S.2.1 dL_does_221 (lv_at hl 2 rfl) ?_
    refine lv_iconst (v := (nI 3)) S.1 S.2.1 dL_does_223 (by decide) ?_
    refine lv_irem S.1 S.2.1 dL_does_224 (by decide) ?_
    refine lv_if_ne (tgt := 236) S.1 S.2.1 dL_does_225 (by decide) (fun c140 => ?_) (fun c140 => ?_)
    · have h := h.1 c140
      refine lv_iconst (v := (nI 1)) S.1 S.2.1 dL_does_236 (by decide) ?_
      refine lv_iload S.1 S.2.1 dL_does_237 (lv_at hl 3 rfl) ?_
      refine lv_iconst (v := (nI 3)) S.1 S.2.1 dL_does_239 (by decide) ?_
      refine lv_irem S.1 S.2.1 dL_does_240 (by decide) ?_
      refine lv_iadd S.1 S.2.1 dL_does_241 ?_
      exact hB242  x7 r3 ((nI 1) + (x7 - x7 / (nI 3) * (nI 3))) μ H locs ls hM hS (lv_sub hl [0, 3] rfl) h
    · have h := h.2 c140
      refine lv_iload S.1 S.2.1 dL_does_228 (lv_at hl 3 rfl) ?_
      refine lv_bipush (v := (nI 11)) S.1 S.2.1 dL_does_230 (by decide) ?_
      refine lv_irem S.1 S.2.1 dL_does_232 (by decide) ?_
      refine lv_goto (tgt := 242) S.1 S.2.1 dL_does_233 (by decide) ?_
      exact hB242  x7 r3 (x7 - x7 / (nI 11) * (nI 11)) μ H locs ls hM hS (lv_sub hl [0, 3] rfl) h
  have hB254 : ∀ (r3 : Option Nat) (μ : mmT) (H : Heap) (locs : List Loc) (ls : Array Slot), Mm G μ H → va_S (Ah G) s.heap H locs → lv_has ls 9 [(0, .ref (gX G 5)), (3, va_rf r3)] → w_L_does_b254 G Q  r3 μ → W p l e { frames := 10, cells := 25, slots := 182, locals := 259 } s m args below meth c H locs (0) (0) (MQ below (mQ G (pI Q)) args s 25 182 (Ah G)) (F0 m 254 ls []) := by
    intro  r3 μ H locs ls hM hS hl h
    unfold w_L_does_b254 at h
    refine mz_aload_n (x := r3) S.1 S.2.1 dL_does_254 rfl (lv_at hl 1 rfl) ?_
    refine mz_SH S hG hM hS (As := [va_rf r3]) (rest := []) (c_L_addCrow hl0 h) yh_L_addCrow tw_689 tw_690 ⟨Nat.le_of_ble_eq_true rfl, Nat.le_of_ble_eq_true rfl⟩ ⟨(Nat.le_of_ble_eq_true rfl), (Nat.le_of_ble_eq_true rfl)⟩ rfl hl.1 rfl (Nat.le_of_ble_eq_true rfl) dL_does_255 (fun v9 μ148 H locs hp hM hS => ?_)
    obtain ⟨u147, rfl, h⟩ := hp
    refine W.cs (cells' := 1) (slots' := 6) rfl rfl ?_
    exact mz_iret S hr hlk hM hS rfl (Nat.le_of_ble_eq_true rfl) (Nat.le_of_ble_eq_true rfl) dL_does_258 ⟨_, rfl, h⟩
  have hB259 : ∀ (r3 : Option Nat) (x7 : Int32) (μ : mmT) (H : Heap) (locs : List Loc) (ls : Array Slot), Mm G μ H → va_S (Ah G) s.heap H locs → lv_has ls 9 [(0, .ref (gX G 5)), (3, va_rf r3), (7, .int x7)] → w_L_does_b259 G Q  r3 x7 μ → W p l e { frames := 10, cells := 25, slots := 182, locals := 259 } s m args below meth c H locs (0) (0) (MQ below (mQ G (pI Q)) args s 25 182 (Ah G)) (F0 m 259 ls []) := by
    intro  r3 x7 μ H locs ls hM hS hl h
    unfold w_L_does_b259 at h
    refine mz_aload_n (x := r3) S.1 S.2.1 dL_does_259 rfl (lv_at hl 1 rfl) ?_
    refine lv_iload S.1 S.2.1 dL_does_260 (lv_at hl 2 rfl) ?_
    refine lv_bipush (v := (nI 11)) S.1 S.2.1 dL_does_262 (by decide) ?_
    refine lv_irem S.1 S.2.1 dL_does_264 (by decide) ?_
    refine mz_SH S hG hM hS (As := [va_rf r3, .int (x7 - x7 / (nI 11) * (nI 11))]) (rest := []) (c_L_setWind hl0 h) yh_L_setWind tw_700 tw_701 ⟨Nat.le_of_ble_eq_true rfl, Nat.le_of_ble_eq_true rfl⟩ ⟨(Nat.le_of_ble_eq_true rfl), (Nat.le_of_ble_eq_true rfl)⟩ rfl hl.1 rfl (Nat.le_of_ble_eq_true rfl) dL_does_265 (fun v9 μ151 H locs hp hM hS => ?_)
    obtain ⟨u150, rfl, h⟩ := hp
    refine W.cs (cells' := 1) (slots' := 6) rfl rfl ?_
    exact mz_iret S hr hlk hM hS rfl (Nat.le_of_ble_eq_true rfl) (Nat.le_of_ble_eq_true rfl) dL_does_268 ⟨_, rfl, h⟩
  have hB292 : ∀ (s0 : Option Nat) (s1 : Int32) (s2 : Int32) (μ : mmT) (H : Heap) (locs : List Loc) (ls : Array Slot), Mm G μ H → va_S (Ah G) s.heap H locs → lv_has ls 9 [(0, .ref (gX G 5))] → w_L_does_b292 G Q  s0 s1 s2 μ → W p l e { frames := 10, cells := 25, slots := 182, locals := 259 } s m args below meth c H locs (0) (0) (MQ below (mQ G (pI Q)) args s 25 182 (Ah G)) (F0 m 292 ls [.int s2, .int s1, va_rf s0]) := by
    intro  s0 s1 s2 μ H locs ls hM hS hl h
    unfold w_L_does_b292 at h
    refine mz_SH S hG hM hS (As := [va_rf s0, .int s1, .int s2]) (rest := []) (c_L_publish hl0 h) yh_L_publish tw_711 tw_712 ⟨Nat.le_of_ble_eq_true rfl, Nat.le_of_ble_eq_true rfl⟩ ⟨(Nat.le_of_ble_eq_true rfl), (Nat.le_of_ble_eq_true rfl)⟩ rfl hl.1 rfl (Nat.le_of_ble_eq_true rfl) dL_does_292 (fun v9 μ156 H locs hp hM hS => ?_)
    obtain ⟨u155, rfl, h⟩ := hp
    refine W.cs (cells' := 1) (slots' := 6) rfl rfl ?_
    exact mz_iret S hr hlk hM hS rfl (Nat.le_of_ble_eq_true rfl) (Nat.le_of_ble_eq_true rfl) dL_does_295 ⟨_, rfl, h⟩
  have hB269 : ∀ (r3 : Option Nat) (x6 : Int32) (x8 : Int32) (μ : mmT) (H : Heap) (locs : List Loc) (ls : Array Slot), Mm G μ H → va_S (Ah G) s.heap H locs → lv_has ls 9 [(0, .ref (gX G 5)), (3, va_rf r3), (6, .int x6), (8, .int x8)] → w_L_does_b269 G Q  r3 x6 x8 μ → W p l e { frames := 10, cells := 25, slots := 182, locals := 259 } s m args below meth c H locs (0) (0) (MQ below (mQ G (pI Q)) args s 25 182 (Ah G)) (F0 m 269 ls []) := by
    intro  r3 x6 x8 μ H locs ls hM hS hl h
    unfold w_L_does_b269 at h
    refine mz_aload_n (x := r3) S.1 S.2.1 dL_does_269 rfl (lv_at hl 1 rfl) ?_
    refine lv_iload S.1 S.2.1 dL_does_270 (lv_at hl 3 rfl) ?_
    refine lv_iload S.1 S.2.1 dL_does_272 (lv_at hl 2 rfl) ?_
    refine lv_iconst (v := (nI 3)) S.1 S.2.1 dL_does_274 (by decide) ?_
    refine lv_irem S.1 S.2.1 dL_does_275 (by decide) ?_
    refine lv_if_ne (tgt := 287) S.1 S.2.1 dL_does_276 (by decide) (fun c153 => ?_) (fun c153 => ?_)
    · have h := h.1 c153
      refine lv_iload S.1 S.2.1 dL_does_287 (lv_at hl 2 rfl) ?_
      refine lv_bipush (v := (nI 12)) S.1 S.2.1 dL_does_289 (by decide) ?_
      refine lv_irem S.1 S.2.1 dL_does_291 (by decide) ?_
      exact hB292  r3 x8 (x6 - x6 / (nI 12) * (nI 12)) μ H locs ls hM hS (lv_sub hl [0] rfl) h
    · have h := h.2 c153
      refine lv_iload S.1 S.2.1 dL_does_279 (lv_at hl 2 rfl) ?_
      refine lv_bipush (v := (nI 101)) S.1 S.2.1 dL_does_281 (by decide) ?_
      refine lv_irem S.1 S.2.1 dL_does_283 (by decide) ?_
      refine lv_goto (tgt := 292) S.1 S.2.1 dL_does_284 (by decide) ?_
      exact hB292  r3 x8 (x6 - x6 / (nI 101) * (nI 101)) μ H locs ls hM hS (lv_sub hl [0] rfl) h
  have hB296 : ∀ (r3 : Option Nat) (x8 : Int32) (μ : mmT) (H : Heap) (locs : List Loc) (ls : Array Slot), Mm G μ H → va_S (Ah G) s.heap H locs → lv_has ls 9 [(0, .ref (gX G 5)), (3, va_rf r3), (8, .int x8)] → w_L_does_b296 G Q  r3 x8 μ → W p l e { frames := 10, cells := 25, slots := 182, locals := 259 } s m args below meth c H locs (0) (0) (MQ below (mQ G (pI Q)) args s 25 182 (Ah G)) (F0 m 296 ls []) := by
    intro  r3 x8 μ H locs ls hM hS hl h
    unfold w_L_does_b296 at h
    refine mz_aload_n (x := r3) S.1 S.2.1 dL_does_296 rfl (lv_at hl 1 rfl) ?_
    refine lv_iload S.1 S.2.1 dL_does_297 (lv_at hl 2 rfl) ?_
    refine mz_SH S hG hM hS (As := [va_rf r3, .int x8]) (rest := []) (c_L_read hl0 h) yh_L_read tw_747 tw_748 ⟨Nat.le_of_ble_eq_true rfl, Nat.le_of_ble_eq_true rfl⟩ ⟨(Nat.le_of_ble_eq_true rfl), (Nat.le_of_ble_eq_true rfl)⟩ rfl hl.1 rfl (Nat.le_of_ble_eq_true rfl) dL_does_299 (fun v9 μ159 H locs hp hM hS => ?_)
    obtain ⟨u158, rfl, h⟩ := hp
    refine W.cs (cells' := 1) (slots' := 6) rfl rfl ?_
    exact mz_iret S hr hlk hM hS rfl (Nat.le_of_ble_eq_true rfl) (Nat.le_of_ble_eq_true rfl) dL_does_302 ⟨_, rfl, h⟩
  have hB303 : ∀ (r3 : Option Nat) (x8 : Int32) (μ : mmT) (H : Heap) (locs : List Loc) (ls : Array Slot), Mm G μ H → va_S (Ah G) s.heap H locs → lv_has ls 9 [(0, .ref (gX G 5)), (3, va_rf r3), (8, .int x8)] → w_L_does_b303 G Q  r3 x8 μ → W p l e { frames := 10, cells := 25, slots := 182, locals := 259 } s m args below meth c H locs (0) (0) (MQ below (mQ G (pI Q)) args s 25 182 (Ah G)) (F0 m 303 ls []) := by
    intro  r3 x8 μ H locs ls hM hS hl h
    unfold w_L_does_b303 at h
    refine mz_aload_n (x := r3) S.1 S.2.1 dL_does_303 rfl (lv_at hl 1 rfl) ?_
    refine lv_iload S.1 S.2.1 dL_does_304 (lv_at hl 2 rfl) ?_
    refine mz_SH S hG hM hS (As := [va_rf r3, .int x8]) (rest := []) (c_L_forget hl0 h) yh_L_forget tw_762 tw_763 ⟨Nat.le_of_ble_eq_true rfl, Nat.le_of_ble_eq_true rfl⟩ ⟨(Nat.le_of_ble_eq_true rfl), (Nat.le_of_ble_eq_true rfl)⟩ rfl hl.1 rfl (Nat.le_of_ble_eq_true rfl) dL_does_306 (fun v9 μ161 H locs hp hM hS => ?_)
    obtain ⟨u160, rfl, h⟩ := hp
    refine W.cs (cells' := 1) (slots' := 6) rfl rfl ?_
    exact mz_iret S hr hlk hM hS rfl (Nat.le_of_ble_eq_true rfl) (Nat.le_of_ble_eq_true rfl) dL_does_309 ⟨_, rfl, h⟩
  have hB310 : ∀ (r3 : Option Nat) (x4 : Int32) (μ : mmT) (H : Heap) (locs : List Loc) (ls : Array Slot), Mm G μ H → va_S (Ah G) s.heap H locs → lv_has ls 9 [(0, .ref (gX G 5)), (3, va_rf r3), (4, .int x4)] → w_L_does_b310 G Q  r3 x4 μ → W p l e { frames := 10, cells := 25, slots := 182, locals := 259 } s m args below meth c H locs (0) (0) (MQ below (mQ G (pI Q)) args s 25 182 (Ah G)) (F0 m 310 ls []) := by
    intro  r3 x4 μ H locs ls hM hS hl h
    unfold w_L_does_b310 at h
    refine mz_aload_n (x := r3) S.1 S.2.1 dL_does_310 rfl (lv_at hl 1 rfl) ?_
    refine lv_iload S.1 S.2.1 dL_does_311 (lv_at hl 2 rfl) ?_
    refine mz_SH S hG hM hS (As := [va_rf r3, .int x4]) (rest := []) (c_L_cancel hl0 h) yh_L_cancel tw_773 tw_774 ⟨Nat.le_of_ble_eq_true rfl, Nat.le_of_ble_eq_true rfl⟩ ⟨(Nat.le_of_ble_eq_true rfl), (Nat.le_of_ble_eq_true rfl)⟩ rfl hl.1 rfl (Nat.le_of_ble_eq_true rfl) dL_does_313 (fun v9 μ163 H locs hp hM hS => ?_)
    obtain ⟨u162, rfl, h⟩ := hp
    refine W.cs (cells' := 1) (slots' := 6) rfl rfl ?_
    exact mz_iret S hr hlk hM hS rfl (Nat.le_of_ble_eq_true rfl) (Nat.le_of_ble_eq_true rfl) dL_does_316 ⟨_, rfl, h⟩
  have hB317 : ∀ (r3 : Option Nat) (x5 : Int32) (μ : mmT) (H : Heap) (locs : List Loc) (ls : Array Slot), Mm G μ H → va_S (Ah G) s.heap H locs → lv_has ls 9 [(0, .ref (gX G 5)), (3, va_rf r3), (5, .int x5)] → w_L_does_b317 G Q  r3 x5 μ → W p l e { frames := 10, cells := 25, slots := 182, locals := 259 } s m args below meth c H locs (0) (0) (MQ below (mQ G (pI Q)) args s 25 182 (Ah G)) (F0 m 317 ls []) := by
    intro  r3 x5 μ H locs ls hM hS hl h
    unfold w_L_does_b317 at h
    refine mz_aload_n (x := r3) S.1 S.2.1 dL_does_317 rfl (lv_at hl 1 rfl) ?_
    refine lv_iload S.1 S.2.1 dL_does_318 (lv_at hl 2 rfl) ?_
    refine mz_SH S hG hM hS (As := [va_rf r3, .int x5]) (rest := []) (c_L_advance hl0 h) yh_L_advance tw_784 tw_785 ⟨Nat.le_of_ble_eq_true rfl, Nat.le_of_ble_eq_true rfl⟩ ⟨(Nat.le_of_ble_eq_true rfl), (Nat.le_of_ble_eq_true rfl)⟩ rfl hl.1 rfl (Nat.le_of_ble_eq_true rfl) dL_does_320 (fun v9 μ165 H locs hp hM hS => ?_)
    obtain ⟨u164, rfl, h⟩ := hp
    refine W.cs (cells' := 1) (slots' := 6) rfl rfl ?_
    exact mz_iret S hr hlk hM hS rfl (Nat.le_of_ble_eq_true rfl) (Nat.le_of_ble_eq_true rfl) dL_does_323 ⟨_, rfl, h⟩
  have hB50 : ∀ (x2 : Int32) (r3 : Option Nat) (x4 : Int32) (x5 : Int32) (x6 : Int32) (x7 : Int32) (s0 : Int32) (s1 : Int32) (s2 : Int32) (μ : mmT) (H : Heap) (locs : List Loc) (ls : Array Slot), Mm G μ H → va_S (Ah G) s.heap H locs → lv_has ls 9 [(0, .ref (gX G 5)), (2, .int x2), (3, va_rf r3), (4, .int x4), (5, .int x5), (6, .int x6), (7, .int x7)] → w_L_does_b50 G Q  x2 r3 x4 x5 x6 x7 s0 s1 s2 μ → W p l e { frames := 10, cells := 25, slots := 182, locals := 259 } s m args below meth c H locs (0) (0) (MQ below (mQ G (pI Q)) args s 25 182 (Ah G)) (F0 m 50 ls [.int s2, .int s1, .int s0]) := by
    intro  x2 r3 x4 x5 x6 x7 s0 s1 s2 μ H locs ls hM hS hl h
    unfold w_L_does_b50 at h
    refine lv_iadd S.1 S.2.1 dL_does_50 ?_
    obtain ⟨g9, h⟩ := h
    refine lv_irem S.1 S.2.1 dL_does_51 g9 ?_
    refine lv_istore (lv' := [(8, .int (s0 - s0 / (s1 + s2) * (s1 + s2))), (0, .ref (gX G 5)), (2, .int x2), (3, va_rf r3), (4, .int x4), (5, .int x5), (6, .int x6), (7, .int x7)]) S.1 S.2.1 dL_does_52 hl (by decide) rfl (fun ls hl => ?_)
    refine lv_iload_n S.1 S.2.1 dL_does_54 rfl (lv_at hl 2 rfl) ?_
    by_cases c9 : ∀ k ∈ ([0, 1, 2, 3, 4, 5, 6, 7, 8, 9, 10, 11, 12, 13, 14, 15, 16, 17, 18, 19, 20, 21, 22, 23, 24, 25, 26, 27, 28, 29, 30, 31, 32, 33, 34, 35, 36, 37] : List Nat), ¬ x2 = nI k
    · have h := h.1 c9
      refine mz_table (tgt := 324) S.1 S.2.1 dL_does_55 (by decide) (by rw [mz_dflt [0, 1, 2, 3, 4, 5, 6, 7, 8, 9, 10, 11, 12, 13, 14, 15, 16, 17, 18, 19, 20, 21, 22, 23, 24, 25, 26, 27, 28, 29, 30, 31, 32, 33, 34, 35, 36, 37] 38 (by decide +kernel) (by decide +kernel) (by decide +kernel) (by decide +kernel) c9]; rfl) ?_
      exact hB324  r3 x4 x6 (s0 - s0 / (s1 + s2) * (s1 + s2)) μ H locs ls hM hS (lv_sub hl [1, 3, 4, 6, 0] rfl) h
    · have h := h.2
      by_cases c10 : x2 = nI 0
      · have h := h.1 c10
        refine mz_table (tgt := 220) S.1 S.2.1 dL_does_55 (by decide) (by rw [c10]; decide +kernel) ?_
        exact hB220  r3 x6 x7 μ H locs ls hM hS (lv_sub hl [1, 3, 6, 7] rfl) h
      have h := h.2
      by_cases c11 : x2 = nI 1
      · have h := h.1 c11
        refine mz_table (tgt := 220) S.1 S.2.1 dL_does_55 (by decide) (by rw [c11]; decide +kernel) ?_
        exact hB220  r3 x6 x7 μ H locs ls hM hS (lv_sub hl [1, 3, 6, 7] rfl) h
      have h := h.2
      by_cases c12 : x2 = nI 2
      · have h := h.1 c12
        refine mz_table (tgt := 254) S.1 S.2.1 dL_does_55 (by decide) (by rw [c12]; decide +kernel) ?_
        exact hB254  r3 μ H locs ls hM hS (lv_sub hl [1, 3] rfl) h
      have h := h.2
      by_cases c13 : x2 = nI 3
      · have h := h.1 c13
        refine mz_table (tgt := 254) S.1 S.2.1 dL_does_55 (by decide) (by rw [c13]; decide +kernel) ?_
        exact hB254  r3 μ H locs ls hM hS (lv_sub hl [1, 3] rfl) h
      have h := h.2
      by_cases c14 : x2 = nI 4
      · have h := h.1 c14
        refine mz_table (tgt := 259) S.1 S.2.1 dL_does_55 (by decide) (by rw [c14]; decide +kernel) ?_
        exact hB259  r3 x7 μ H locs ls hM hS (lv_sub hl [1, 3, 7] rfl) h
      have h := h.2
      by_cases c15 : x2 = nI 5
      · have h := h.1 c15
        refine mz_table (tgt := 259) S.1 S.2.1 dL_does_55 (by decide) (by rw [c15]; decide +kernel) ?_
        exact hB259  r3 x7 μ H locs ls hM hS (lv_sub hl [1, 3, 7] rfl) h
      have h := h.2
      by_cases c16 : x2 = nI 6
      · have h := h.1 c16
        refine mz_table (tgt := 269) S.1 S.2.1 dL_does_55 (by decide) (by rw [c16]; decide +kernel) ?_
        exact hB269  r3 x6 (s0 - s0 / (s1 + s2) * (s1 + s2)) μ H locs ls hM hS (lv_sub hl [1, 3, 6, 0] rfl) h
      have h := h.2
      by_cases c17 : x2 = nI 7
      · have h := h.1 c17
        refine mz_table (tgt := 269) S.1 S.2.1 dL_does_55 (by decide) (by rw [c17]; decide +kernel) ?_
        exact hB269  r3 x6 (s0 - s0 / (s1 + s2) * (s1 + s2)) μ H locs ls hM hS (lv_sub hl [1, 3, 6, 0] rfl) h
      have h := h.2
      by_cases c18 : x2 = nI 8
      · have h := h.1 c18
        refine mz_table (tgt := 269) S.1 S.2.1 dL_does_55 (by decide) (by rw [c18]; decide +kernel) ?_
        exact hB269  r3 x6 (s0 - s0 / (s1 + s2) * (s1 + s2)) μ H locs ls hM hS (lv_sub hl [1, 3, 6, 0] rfl) h
      have h := h.2
      by_cases c19 : x2 = nI 9
      · have h := h.1 c19
        refine mz_table (tgt := 269) S.1 S.2.1 dL_does_55 (by decide) (by rw [c19]; decide +kernel) ?_
        exact hB269  r3 x6 (s0 - s0 / (s1 + s2) * (s1 + s2)) μ H locs ls hM hS (lv_sub hl [1, 3, 6, 0] rfl) h
      have h := h.2
      by_cases c20 : x2 = nI 10
      · have h := h.1 c20
        refine mz_table (tgt := 269) S.1 S.2.1 dL_does_55 (by decide) (by rw [c20]; decide +kernel) ?_
        exact hB269  r3 x6 (s0 - s0 / (s1 + s2) * (s1 + s2)) μ H locs ls hM hS (lv_sub hl [1, 3, 6, 0] rfl) h
      have h := h.2
      by_cases c21 : x2 = nI 11
      · have h := h.1 c21
        refine mz_table (tgt := 269) S.1 S.2.1 dL_does_55 (by decide) (by rw [c21]; decide +kernel) ?_
        exact hB269  r3 x6 (s0 - s0 / (s1 + s2) * (s1 + s2)) μ H locs ls hM hS (lv_sub hl [1, 3, 6, 0] rfl) h
      have h := h.2
      by_cases c22 : x2 = nI 12
      · have h := h.1 c22
        refine mz_table (tgt := 269) S.1 S.2.1 dL_does_55 (by decide) (by rw [c22]; decide +kernel) ?_
        exact hB269  r3 x6 (s0 - s0 / (s1 + s2) * (s1 + s2)) μ H locs ls hM hS (lv_sub hl [1, 3, 6, 0] rfl) h
      have h := h.2
      by_cases c23 : x2 = nI 13
      · have h := h.1 c23
        refine mz_table (tgt := 269) S.1 S.2.1 dL_does_55 (by decide) (by rw [c23]; decide +kernel) ?_
        exact hB269  r3 x6 (s0 - s0 / (s1 + s2) * (s1 + s2)) μ H locs ls hM hS (lv_sub hl [1, 3, 6, 0] rfl) h
      have h := h.2
      by_cases c24 : x2 = nI 14
      · have h := h.1 c24
        refine mz_table (tgt := 269) S.1 S.2.1 dL_does_55 (by decide) (by rw [c24]; decide +kernel) ?_
        exact hB269  r3 x6 (s0 - s0 / (s1 + s2) * (s1 + s2)) μ H locs ls hM hS (lv_sub hl [1, 3, 6, 0] rfl) h
      have h := h.2
      by_cases c25 : x2 = nI 15
      · have h := h.1 c25
        refine mz_table (tgt := 269) S.1 S.2.1 dL_does_55 (by decide) (by rw [c25]; decide +kernel) ?_
        exact hB269  r3 x6 (s0 - s0 / (s1 + s2) * (s1 + s2)) μ H locs ls hM hS (lv_sub hl [1, 3, 6, 0] rfl) h
      have h := h.2
      by_cases c26 : x2 = nI 16
      · have h := h.1 c26
        refine mz_table (tgt := 269) S.1 S.2.1 dL_does_55 (by decide) (by rw [c26]; decide +kernel) ?_
        exact hB269  r3 x6 (s0 - s0 / (s1 + s2) * (s1 + s2)) μ H locs ls hM hS (lv_sub hl [1, 3, 6, 0] rfl) h
      have h := h.2
      by_cases c27 : x2 = nI 17
      · have h := h.1 c27
        refine mz_table (tgt := 269) S.1 S.2.1 dL_does_55 (by decide) (by rw [c27]; decide +kernel) ?_
        exact hB269  r3 x6 (s0 - s0 / (s1 + s2) * (s1 + s2)) μ H locs ls hM hS (lv_sub hl [1, 3, 6, 0] rfl) h
      have h := h.2
      by_cases c28 : x2 = nI 18
      · have h := h.1 c28
        refine mz_table (tgt := 269) S.1 S.2.1 dL_does_55 (by decide) (by rw [c28]; decide +kernel) ?_
        exact hB269  r3 x6 (s0 - s0 / (s1 + s2) * (s1 + s2)) μ H locs ls hM hS (lv_sub hl [1, 3, 6, 0] rfl) h
      have h := h.2
      by_cases c29 : x2 = nI 19
      · have h := h.1 c29
        refine mz_table (tgt := 269) S.1 S.2.1 dL_does_55 (by decide) (by rw [c29]; decide +kernel) ?_
        exact hB269  r3 x6 (s0 - s0 / (s1 + s2) * (s1 + s2)) μ H locs ls hM hS (lv_sub hl [1, 3, 6, 0] rfl) h
      have h := h.2
      by_cases c30 : x2 = nI 20
      · have h := h.1 c30
        refine mz_table (tgt := 296) S.1 S.2.1 dL_does_55 (by decide) (by rw [c30]; decide +kernel) ?_
        exact hB296  r3 (s0 - s0 / (s1 + s2) * (s1 + s2)) μ H locs ls hM hS (lv_sub hl [1, 3, 0] rfl) h
      have h := h.2
      by_cases c31 : x2 = nI 21
      · have h := h.1 c31
        refine mz_table (tgt := 296) S.1 S.2.1 dL_does_55 (by decide) (by rw [c31]; decide +kernel) ?_
        exact hB296  r3 (s0 - s0 / (s1 + s2) * (s1 + s2)) μ H locs ls hM hS (lv_sub hl [1, 3, 0] rfl) h
      have h := h.2
      by_cases c32 : x2 = nI 22
      · have h := h.1 c32
        refine mz_table (tgt := 296) S.1 S.2.1 dL_does_55 (by decide) (by rw [c32]; decide +kernel) ?_
        exact hB296  r3 (s0 - s0 / (s1 + s2) * (s1 + s2)) μ H locs ls hM hS (lv_sub hl [1, 3, 0] rfl) h
      have h := h.2
      by_cases c33 : x2 = nI 23
      · have h := h.1 c33
        refine mz_table (tgt := 296) S.1 S.2.1 dL_does_55 (by decide) (by rw [c33]; decide +kernel) ?_
        exact hB296  r3 (s0 - s0 / (s1 + s2) * (s1 + s2)) μ H locs ls hM hS (lv_sub hl [1, 3, 0] rfl) h
      have h := h.2
      by_cases c34 : x2 = nI 24
      · have h := h.1 c34
        refine mz_table (tgt := 296) S.1 S.2.1 dL_does_55 (by decide) (by rw [c34]; decide +kernel) ?_
        exact hB296  r3 (s0 - s0 / (s1 + s2) * (s1 + s2)) μ H locs ls hM hS (lv_sub hl [1, 3, 0] rfl) h
      have h := h.2
      by_cases c35 : x2 = nI 25
      · have h := h.1 c35
        refine mz_table (tgt := 303) S.1 S.2.1 dL_does_55 (by decide) (by rw [c35]; decide +kernel) ?_
        exact hB303  r3 (s0 - s0 / (s1 + s2) * (s1 + s2)) μ H locs ls hM hS (lv_sub hl [1, 3, 0] rfl) h
      have h := h.2
      by_cases c36 : x2 = nI 26
      · have h := h.1 c36
        refine mz_table (tgt := 303) S.1 S.2.1 dL_does_55 (by decide) (by rw [c36]; decide +kernel) ?_
        exact hB303  r3 (s0 - s0 / (s1 + s2) * (s1 + s2)) μ H locs ls hM hS (lv_sub hl [1, 3, 0] rfl) h
      have h := h.2
      by_cases c37 : x2 = nI 27
      · have h := h.1 c37
        refine mz_table (tgt := 310) S.1 S.2.1 dL_does_55 (by decide) (by rw [c37]; decide +kernel) ?_
        exact hB310  r3 x4 μ H locs ls hM hS (lv_sub hl [1, 3, 4] rfl) h
      have h := h.2
      by_cases c38 : x2 = nI 28
      · have h := h.1 c38
        refine mz_table (tgt := 310) S.1 S.2.1 dL_does_55 (by decide) (by rw [c38]; decide +kernel) ?_
        exact hB310  r3 x4 μ H locs ls hM hS (lv_sub hl [1, 3, 4] rfl) h
      have h := h.2
      by_cases c39 : x2 = nI 29
      · have h := h.1 c39
        refine mz_table (tgt := 310) S.1 S.2.1 dL_does_55 (by decide) (by rw [c39]; decide +kernel) ?_
        exact hB310  r3 x4 μ H locs ls hM hS (lv_sub hl [1, 3, 4] rfl) h
      have h := h.2
      by_cases c40 : x2 = nI 30
      · have h := h.1 c40
        refine mz_table (tgt := 317) S.1 S.2.1 dL_does_55 (by decide) (by rw [c40]; decide +kernel) ?_
        exact hB317  r3 x5 μ H locs ls hM hS (lv_sub hl [1, 3, 5] rfl) h
      have h := h.2
      by_cases c41 : x2 = nI 31
      · have h := h.1 c41
        refine mz_table (tgt := 317) S.1 S.2.1 dL_does_55 (by decide) (by rw [c41]; decide +kernel) ?_
        exact hB317  r3 x5 μ H locs ls hM hS (lv_sub hl [1, 3, 5] rfl) h
      have h := h.2
      by_cases c42 : x2 = nI 32
      · have h := h.1 c42
        refine mz_table (tgt := 317) S.1 S.2.1 dL_does_55 (by decide) (by rw [c42]; decide +kernel) ?_
        exact hB317  r3 x5 μ H locs ls hM hS (lv_sub hl [1, 3, 5] rfl) h
      have h := h.2
      by_cases c43 : x2 = nI 33
      · have h := h.1 c43
        refine mz_table (tgt := 317) S.1 S.2.1 dL_does_55 (by decide) (by rw [c43]; decide +kernel) ?_
        exact hB317  r3 x5 μ H locs ls hM hS (lv_sub hl [1, 3, 5] rfl) h
      have h := h.2
      by_cases c44 : x2 = nI 34
      · have h := h.1 c44
        refine mz_table (tgt := 317) S.1 S.2.1 dL_does_55 (by decide) (by rw [c44]; decide +kernel) ?_
        exact hB317  r3 x5 μ H locs ls hM hS (lv_sub hl [1, 3, 5] rfl) h
      have h := h.2
      by_cases c45 : x2 = nI 35
      · have h := h.1 c45
        refine mz_table (tgt := 317) S.1 S.2.1 dL_does_55 (by decide) (by rw [c45]; decide +kernel) ?_
        exact hB317  r3 x5 μ H locs ls hM hS (lv_sub hl [1, 3, 5] rfl) h
      have h := h.2
      by_cases c46 : x2 = nI 36
      · have h := h.1 c46
        refine mz_table (tgt := 317) S.1 S.2.1 dL_does_55 (by decide) (by rw [c46]; decide +kernel) ?_
        exact hB317  r3 x5 μ H locs ls hM hS (lv_sub hl [1, 3, 5] rfl) h
      have h := h.2
      by_cases c47 : x2 = nI 37
      · have h := h c47
        refine mz_table (tgt := 317) S.1 S.2.1 dL_does_55 (by decide) (by rw [c47]; decide +kernel) ?_
        exact hB317  r3 x5 μ H locs ls hM hS (lv_sub hl [1, 3, 5] rfl) h
      exact absurd (by simp [c10, c11, c12, c13, c14, c15, c16, c17, c18, c19, c20, c21, c22, c23, c24, c25, c26, c27, c28, c29, c30, c31, c32, c33, c34, c35, c36, c37, c38, c39, c40, c41, c42, c43, c44, c45, c46, c47]) c9
  have hB45 : ∀ (x2 : Int32) (r3 : Option Nat) (x4 : Int32) (x5 : Int32) (x6 : Int32) (x7 : Int32) (s0 : Int32) (s1 : Int32) (μ : mmT) (H : Heap) (locs : List Loc) (ls : Array Slot), Mm G μ H → va_S (Ah G) s.heap H locs → lv_has ls 9 [(0, .ref (gX G 5)), (2, .int x2), (3, va_rf r3), (4, .int x4), (5, .int x5), (6, .int x6), (7, .int x7)] → w_L_does_b45 G Q  x2 r3 x4 x5 x6 x7 s0 s1 μ → W p l e { frames := 10, cells := 25, slots := 182, locals := 259 } s m args below meth c H locs (0) (0) (MQ below (mQ G (pI Q)) args s 25 182 (Ah G)) (F0 m 45 ls [.int s1, .int s0]) := by
    intro  x2 r3 x4 x5 x6 x7 s0 s1 μ H locs ls hM hS hl h
    unfold w_L_does_b45 at h
    refine lv_iconst (v := (nI 1)) S.1 S.2.1 dL_does_45 (by decide) ?_
    refine lv_goto (tgt := 50) S.1 S.2.1 dL_does_46 (by decide) ?_
    exact hB50  x2 r3 x4 x5 x6 x7 s0 s1 (nI 1) μ H locs ls hM hS (lv_sub hl [0, 1, 2, 3, 4, 5, 6] rfl) h
  intro H locs ls hM hS hl
  have hl : lv_has ls 9 [(0, .ref (gX G 5)), (1, .int x1), (2, .int x2), (3, va_rf r3), (4, .int x4), (5, .int x5)] := by simpa [lv_args, mz_cat, mz_cr, mz_ci, mz_cl, mz_cf, mz_cd, mz_cn] using hl
  unfold w_L_does at h
  refine lv_aload_n S.1 S.2.1 dL_does_0 rfl (lv_at hl 0 rfl) ?_
  refine lv_iload_n S.1 S.2.1 dL_does_1 rfl (lv_at hl 1 rfl) ?_
  refine lv_iconst (v := (nI 3)) S.1 S.2.1 dL_does_2 (by decide) ?_
  refine lv_iadd S.1 S.2.1 dL_does_3 ?_
  refine lv_sipush (v := (nI 1000)) S.1 S.2.1 dL_does_4 (by decide) ?_
  refine mz_S S hG hM hS (As := [.ref (gX G 5), .int (x1 + (nI 3)), .int (nI 1000)]) (rest := []) (c_L_pick h) yf_L_pick tw_398 tw_399 ⟨Nat.le_of_ble_eq_true rfl, Nat.le_of_ble_eq_true rfl⟩ ⟨(Nat.le_of_ble_eq_true rfl), (Nat.le_of_ble_eq_true rfl)⟩ rfl hl.1 rfl (Nat.le_of_ble_eq_true rfl) dL_does_7 (fun v9 μ9 H locs hp hM hS => ?_)
  obtain ⟨u1, rfl, e9, h⟩ := hp
  rw [e9] at hM
  refine W.cs (cells' := 0) (slots' := 0) rfl rfl ?_
  refine lv_istore (lv' := [(6, .int u1), (0, .ref (gX G 5)), (1, .int x1), (2, .int x2), (3, va_rf r3), (4, .int x4), (5, .int x5)]) S.1 S.2.1 dL_does_10 hl (by decide) rfl (fun ls hl => ?_)
  refine lv_aload_n S.1 S.2.1 dL_does_12 rfl (lv_at hl 1 rfl) ?_
  refine lv_iload_n S.1 S.2.1 dL_does_13 rfl (lv_at hl 2 rfl) ?_
  refine lv_iconst (v := (nI 4)) S.1 S.2.1 dL_does_14 (by decide) ?_
  refine lv_iadd S.1 S.2.1 dL_does_15 ?_
  refine lv_sipush (v := (nI 1000)) S.1 S.2.1 dL_does_16 (by decide) ?_
  refine mz_S S hG hM hS (As := [.ref (gX G 5), .int (x1 + (nI 4)), .int (nI 1000)]) (rest := []) (c_L_pick h) yf_L_pick tw_398 tw_399 ⟨Nat.le_of_ble_eq_true rfl, Nat.le_of_ble_eq_true rfl⟩ ⟨(Nat.le_of_ble_eq_true rfl), (Nat.le_of_ble_eq_true rfl)⟩ rfl hl.1 rfl (Nat.le_of_ble_eq_true rfl) dL_does_19 (fun v9 μ9 H locs hp hM hS => ?_)
  obtain ⟨u2, rfl, e9, h⟩ := hp
  rw [e9] at hM
  refine W.cs (cells' := 0) (slots' := 0) rfl rfl ?_
  refine lv_istore (lv' := [(7, .int u2), (6, .int u1), (0, .ref (gX G 5)), (1, .int x1), (2, .int x2), (3, va_rf r3), (4, .int x4), (5, .int x5)]) S.1 S.2.1 dL_does_22 hl (by decide) rfl (fun ls hl => ?_)
  refine lv_iload S.1 S.2.1 dL_does_24 (lv_at hl 0 rfl) ?_
  refine mz_aload_n (x := r3) S.1 S.2.1 dL_does_26 rfl (lv_at hl 5 rfl) ?_
  obtain ⟨a3, e4, h⟩ := h
  refine mz_o0 e4 ?_
  obtain ⟨k5, h⟩ := h
  refine mz_V S hG hM hS cf_9 k5 (As := []) (rest := [.int u2]) (c_X10_nestCount h) yf_X10_nestCount tw_627 tw_628 tw_629 ⟨Nat.le_of_ble_eq_true rfl, Nat.le_of_ble_eq_true rfl⟩ ⟨(Nat.le_of_ble_eq_true rfl), (Nat.le_of_ble_eq_true rfl)⟩ rfl hl.1 rfl (Nat.le_of_ble_eq_true rfl) dL_does_27 (fun v9 μ9 H locs hp hM hS => ?_)
  obtain ⟨u6, rfl, e9, h⟩ := hp
  rw [e9] at hM
  refine W.cs (cells' := 0) (slots' := 0) rfl rfl ?_
  refine lv_iload S.1 S.2.1 dL_does_30 (lv_at hl 1 rfl) ?_
  refine lv_bipush (v := (nI 19)) S.1 S.2.1 dL_does_32 (by decide) ?_
  refine lv_irem S.1 S.2.1 dL_does_34 (by decide) ?_
  refine lv_if_eq (tgt := 45) S.1 S.2.1 dL_does_35 (by decide) (fun c8 => ?_) (fun c8 => ?_)
  · have h := h.1 c8
    exact hB45  x2 r3 x4 x5 u1 u2 u2 u6 μ H locs ls hM hS (lv_sub hl [2, 4, 5, 6, 7, 1, 0] rfl) h
  · have h := h.2 c8
    refine mz_aload_n (x := r3) S.1 S.2.1 dL_does_38 rfl (lv_at hl 5 rfl) ?_
    refine mz_o0 e4 ?_
    refine mz_V S hG hM hS cf_9 k5 (As := []) (rest := [.int u6, .int u2]) (c_X10_nestCount h) yf_X10_nestCount tw_627 tw_628 tw_629 ⟨Nat.le_of_ble_eq_true rfl, Nat.le_of_ble_eq_true rfl⟩ ⟨(Nat.le_of_ble_eq_true rfl), (Nat.le_of_ble_eq_true rfl)⟩ rfl hl.1 rfl (Nat.le_of_ble_eq_true rfl) dL_does_39 (fun v9 μ9 H locs hp hM hS => ?_)
    obtain ⟨u166, rfl, e9, h⟩ := hp
    rw [e9] at hM
    refine W.cs (cells' := 0) (slots' := 0) rfl rfl ?_
    refine lv_if_ne (tgt := 49) S.1 S.2.1 dL_does_42 (by decide) (fun c167 => ?_) (fun c167 => ?_)
    · have h := h.1 c167
      refine lv_iconst (v := (nI 0)) S.1 S.2.1 dL_does_49 (by decide) ?_
      exact hB50  x2 r3 x4 x5 u1 u2 u2 u6 (nI 0) μ H locs ls hM hS (lv_sub hl [2, 4, 5, 6, 7, 1, 0] rfl) h
    · have h := h.2 c167
      exact hB45  x2 r3 x4 x5 u1 u2 u2 u6 μ H locs ls hM hS (lv_sub hl [2, 4, 5, 6, 7, 1, 0] rfl) h
set_option maxRecDepth 100000 in
set_option maxHeartbeats 4000000 in
theorem c_Jxf58ca_isNaN_12338 {l : Launch} {G : mgT} {μ : mmT} {x0 : UInt32} {Q : Int32 → Prop} (h : w_Jxf58ca_isNaN_12338 G μ x0 Q) : MC G l yJxf58ca_isNaN_12338 cJxf58ca_isNaN_12338 1 (some .boolean) { frames := 0, cells := 0, slots := 0, locals := 0 } [.float x0] μ (pI (fun r μ' => μ' = μ ∧ Q r)) := by
  refine mz_MCF (by decide +kernel) (Nat.le_of_ble_eq_true rfl) (fun p e s m args below meth c S hG hr hlk hnm => ?_)
  have hB11 : ∀ (s0 : Int32) (H : Heap) (locs : List Loc) (ls : Array Slot), Mm G μ H → va_S (Ah G) s.heap H locs → lv_has ls 1 [] → w_Jxf58ca_isNaN_12338_b11 G μ Q  s0 → W p l e { frames := 0, cells := 0, slots := 0, locals := 0 } s m args below meth c H locs (0) (0) (MQ below (mQ G (pI (fun r μ' => μ' = μ ∧ Q r))) args s 0 0 (Ah G)) (F0 m 11 ls [.int s0]) := by
    intro  s0 H locs ls hM hS hl h
    unfold w_Jxf58ca_isNaN_12338_b11 at h
    obtain ⟨f2, h⟩ := h
    exact mz_iret S hr hlk hM hS (mz_nZ f2) (Nat.le_of_ble_eq_true rfl) (Nat.le_of_ble_eq_true rfl) dJxf58ca_isNaN_12338_11 ⟨_, rfl, rfl, h⟩
  intro H locs ls hM hS hl
  have hl : lv_has ls 1 [(0, .float x0)] := hl
  unfold w_Jxf58ca_isNaN_12338 at h
  refine lv_fload_n S.1 S.2.1 dJxf58ca_isNaN_12338_0 rfl (lv_at hl 0 rfl) ?_
  refine lv_fload_n S.1 S.2.1 dJxf58ca_isNaN_12338_1 rfl (lv_at hl 0 rfl) ?_
  refine lv_fcmp S.1 S.2.1 dJxf58ca_isNaN_12338_2 ?_
  refine lv_if_eq (tgt := 10) S.1 S.2.1 dJxf58ca_isNaN_12338_3 (by decide) (fun c1 => ?_) (fun c1 => ?_)
  · have h := h.1 c1
    refine lv_iconst (v := (nI 0)) S.1 S.2.1 dJxf58ca_isNaN_12338_10 (by decide) ?_
    exact hB11  (nI 0) H locs ls hM hS (lv_sub hl [] rfl) h
  · have h := h.2 c1
    refine lv_iconst (v := (nI 1)) S.1 S.2.1 dJxf58ca_isNaN_12338_6 (by decide) ?_
    refine lv_goto (tgt := 11) S.1 S.2.1 dJxf58ca_isNaN_12338_7 (by decide) ?_
    exact hB11  (nI 1) H locs ls hM hS (lv_sub hl [] rfl) h
set_option maxRecDepth 100000 in
set_option maxHeartbeats 4000000 in
theorem c_Jxf58ca_floatToIntBits_5c35a {l : Launch} {G : mgT} {μ : mmT} {x0 : UInt32} {Q : Int32 → Prop} (h : w_Jxf58ca_floatToIntBits_5c35a G μ x0 Q) : MC G l yJxf58ca_floatToIntBits_5c35a cJxf58ca_floatToIntBits_5c35a 1 (some .int) { frames := 1, cells := 0, slots := 0, locals := 30 } [.float x0] μ (pI (fun r μ' => μ' = μ ∧ Q r)) := by
  refine mz_MCF (by decide +kernel) (Nat.le_of_ble_eq_true rfl) (fun p e s m args below meth c S hG hr hlk hnm => ?_)
  intro H locs ls hM hS hl
  have hl : lv_has ls 1 [(0, .float x0)] := hl
  unfold w_Jxf58ca_floatToIntBits_5c35a at h
  refine lv_fload_n S.1 S.2.1 dJxf58ca_floatToIntBits_5c35a_0 rfl (lv_at hl 0 rfl) ?_
  refine mz_S S hG hM hS (As := [.float x0]) (rest := []) (c_Jxf58ca_isNaN_12338 h) yf_Jxf58ca_isNaN_12338 tw_1366 tw_1367 ⟨Nat.le_of_ble_eq_true rfl, Nat.le_of_ble_eq_true rfl⟩ ⟨(Nat.le_of_ble_eq_true rfl), (Nat.le_of_ble_eq_true rfl)⟩ rfl hl.1 rfl (Nat.le_of_ble_eq_true rfl) dJxf58ca_floatToIntBits_5c35a_1 (fun v9 μ9 H locs hp hM hS => ?_)
  obtain ⟨u1, rfl, e9, h⟩ := hp
  rw [e9] at hM
  refine W.cs (cells' := 0) (slots' := 0) rfl rfl ?_
  obtain ⟨c2, h⟩ := h
  refine lv_if_ne (tgt := 12) S.1 S.2.1 dJxf58ca_floatToIntBits_5c35a_4 (by decide) (fun c => absurd c2 c) (fun _ => ?_)
  refine lv_fload_n S.1 S.2.1 dJxf58ca_floatToIntBits_5c35a_7 rfl (lv_at hl 0 rfl) ?_
  refine vn_f2i S.1 S.2.1 (S.2.2.1.trans hl.1.symm) S.2.2.2.1 (S.2.2.2.2 _ tw_1369) (S.2.2.2.2 _ tw_1371) (S.2.2.2.2 _ tw_1370) (S.2.2.2.2 _ tw_35) (Nat.le_of_ble_eq_true rfl) (Nat.le_of_ble_eq_true rfl) dJxf58ca_floatToIntBits_5c35a_8 ?_
  exact mz_iret S hr hlk hM hS rfl (Nat.le_of_ble_eq_true rfl) (Nat.le_of_ble_eq_true rfl) dJxf58ca_floatToIntBits_5c35a_11 ⟨_, rfl, rfl, h⟩
set_option maxRecDepth 100000 in
set_option maxHeartbeats 4000000 in
theorem c_Jxe99ae_isNaN_b9ae7 {l : Launch} {G : mgT} {μ : mmT} {x0 : UInt64} {Q : Int32 → Prop} (h : w_Jxe99ae_isNaN_b9ae7 G μ x0 Q) : MC G l yJxe99ae_isNaN_b9ae7 cJxe99ae_isNaN_b9ae7 2 (some .boolean) { frames := 0, cells := 0, slots := 0, locals := 0 } [.double x0] μ (pI (fun r μ' => μ' = μ ∧ Q r)) := by
  refine mz_MC (by decide +kernel) (Nat.le_of_ble_eq_true rfl) (fun p e s m args below meth c S hG hr hlk hnm => ?_)
  have hB11 : ∀ (s0 : Int32) (H : Heap) (locs : List Loc) (ls : Array Slot), Mm G μ H → va_S (Ah G) s.heap H locs → lv_has ls 2 [] → w_Jxe99ae_isNaN_b9ae7_b11 G μ Q  s0 → W p l e { frames := 0, cells := 0, slots := 0, locals := 0 } s m args below meth c H locs (0) (0) (MQ below (mQ G (pI (fun r μ' => μ' = μ ∧ Q r))) args s 0 0 (Ah G)) (F0 m 11 ls [.int s0]) := by
    intro  s0 H locs ls hM hS hl h
    unfold w_Jxe99ae_isNaN_b9ae7_b11 at h
    obtain ⟨f2, h⟩ := h
    exact mz_iret S hr hlk hM hS (mz_nZ f2) (Nat.le_of_ble_eq_true rfl) (Nat.le_of_ble_eq_true rfl) dJxe99ae_isNaN_b9ae7_11 ⟨_, rfl, rfl, h⟩
  intro H locs ls hM hS hl
  have hl : lv_has ls 2 [(0, .double x0)] := hl
  unfold w_Jxe99ae_isNaN_b9ae7 at h
  refine lv_dload_n S.1 S.2.1 dJxe99ae_isNaN_b9ae7_0 rfl (lv_at hl 0 rfl) ?_
  refine lv_dload_n S.1 S.2.1 dJxe99ae_isNaN_b9ae7_1 rfl (lv_at hl 0 rfl) ?_
  refine lv_dcmp S.1 S.2.1 dJxe99ae_isNaN_b9ae7_2 ?_
  refine lv_if_eq (tgt := 10) S.1 S.2.1 dJxe99ae_isNaN_b9ae7_3 (by decide) (fun c1 => ?_) (fun c1 => ?_)
  · have h := h.1 c1
    refine lv_iconst (v := (nI 0)) S.1 S.2.1 dJxe99ae_isNaN_b9ae7_10 (by decide) ?_
    exact hB11  (nI 0) H locs ls hM hS (lv_sub hl [] rfl) h
  · have h := h.2 c1
    refine lv_iconst (v := (nI 1)) S.1 S.2.1 dJxe99ae_isNaN_b9ae7_6 (by decide) ?_
    refine lv_goto (tgt := 11) S.1 S.2.1 dJxe99ae_isNaN_b9ae7_7 (by decide) ?_
    exact hB11  (nI 1) H locs ls hM hS (lv_sub hl [] rfl) h
set_option maxRecDepth 100000 in
set_option maxHeartbeats 4000000 in
theorem c_Jxe99ae_doubleToLongBits_ccdee {l : Launch} {G : mgT} {μ : mmT} {x0 : UInt64} {Q : Int64 → Prop} (h : w_Jxe99ae_doubleToLongBits_ccdee G μ x0 Q) : MC G l yJxe99ae_doubleToLongBits_ccdee cJxe99ae_doubleToLongBits_ccdee 2 (some .long) { frames := 1, cells := 0, slots := 0, locals := 30 } [.double x0] μ (pL (fun r μ' => μ' = μ ∧ Q r)) := by
  refine mz_MC (by decide +kernel) (Nat.le_of_ble_eq_true rfl) (fun p e s m args below meth c S hG hr hlk hnm => ?_)
  intro H locs ls hM hS hl
  have hl : lv_has ls 2 [(0, .double x0)] := hl
  unfold w_Jxe99ae_doubleToLongBits_ccdee at h
  refine lv_dload_n S.1 S.2.1 dJxe99ae_doubleToLongBits_ccdee_0 rfl (lv_at hl 0 rfl) ?_
  refine mz_S S hG hM hS (As := [.double x0]) (rest := []) (c_Jxe99ae_isNaN_b9ae7 h) yf_Jxe99ae_isNaN_b9ae7 tw_1336 tw_1337 ⟨Nat.le_of_ble_eq_true rfl, Nat.le_of_ble_eq_true rfl⟩ ⟨(Nat.le_of_ble_eq_true rfl), (Nat.le_of_ble_eq_true rfl)⟩ rfl hl.1 rfl (Nat.le_of_ble_eq_true rfl) dJxe99ae_doubleToLongBits_ccdee_1 (fun v9 μ9 H locs hp hM hS => ?_)
  obtain ⟨u1, rfl, e9, h⟩ := hp
  rw [e9] at hM
  refine W.cs (cells' := 0) (slots' := 0) rfl rfl ?_
  obtain ⟨c2, h⟩ := h
  refine lv_if_ne (tgt := 12) S.1 S.2.1 dJxe99ae_doubleToLongBits_ccdee_4 (by decide) (fun c => absurd c2 c) (fun _ => ?_)
  refine lv_dload_n S.1 S.2.1 dJxe99ae_doubleToLongBits_ccdee_7 rfl (lv_at hl 0 rfl) ?_
  refine vn_d2l S.1 S.2.1 (S.2.2.1.trans hl.1.symm) S.2.2.2.1 (S.2.2.2.2 _ tw_1339) (S.2.2.2.2 _ tw_1341) (S.2.2.2.2 _ tw_1340) (S.2.2.2.2 _ tw_34) (Nat.le_of_ble_eq_true rfl) (Nat.le_of_ble_eq_true rfl) dJxe99ae_doubleToLongBits_ccdee_8 ?_
  exact mz_lret S hr hlk hM hS (Nat.le_of_ble_eq_true rfl) (Nat.le_of_ble_eq_true rfl) dJxe99ae_doubleToLongBits_ccdee_11 ⟨_, rfl, rfl, h⟩
set_option maxRecDepth 100000 in
set_option maxHeartbeats 4000000 in
theorem c_L_isMessage {l : Launch} {G : mgT} {μ : mmT} {r0 : Option Nat} {x1 : Int32} {Q : Int32 → mmT → Prop} (hl0 : l.stackTraces = false) (h : w_L_isMessage G μ r0 x1 Q) : MC G l yL_isMessage cL_isMessage 14 (some .boolean) { frames := 9, cells := 86, slots := 516, locals := 239 } [va_rf r0, .int x1] μ (pI Q) := by
  refine mz_MC (by decide +kernel) (by simp [lg_sl, mz_cat, mz_cr, mz_ci, mz_cl, mz_cf, mz_cd, mz_cn]) (fun p e s m args below meth c S hG hr hlk hnm => ?_)
  have hB511 : ∀ (s0 : Int32) (μ : mmT) (H : Heap) (locs : List Loc) (ls : Array Slot), Mm G μ H → va_S (Ah G) s.heap H locs → lv_has ls 14 [] → w_L_isMessage_b511 G Q  s0 μ → W p l e { frames := 9, cells := 86, slots := 516, locals := 239 } s m args below meth c H locs (86) (516) (MQ below (mQ G (pI Q)) args s 86 516 (Ah G)) (F0 m 511 ls [.int s0]) := by
    intro  s0 μ H locs ls hM hS hl h
    unfold w_L_isMessage_b511 at h
    obtain ⟨f30, h⟩ := h
    exact mz_iret S hr hlk hM hS (mz_nZ f30) (Nat.le_of_ble_eq_true rfl) (Nat.le_of_ble_eq_true rfl) dL_isMessage_511 ⟨_, rfl, h⟩
  have hB510 : ∀ (μ : mmT) (H : Heap) (locs : List Loc) (ls : Array Slot), Mm G μ H → va_S (Ah G) s.heap H locs → lv_has ls 14 [] → w_L_isMessage_b510 G Q  μ → W p l e { frames := 9, cells := 86, slots := 516, locals := 239 } s m args below meth c H locs (86) (516) (MQ below (mQ G (pI Q)) args s 86 516 (Ah G)) (F0 m 510 ls []) := by
    intro  μ H locs ls hM hS hl h
    unfold w_L_isMessage_b510 at h
    refine lv_iconst (v := (nI 0)) S.1 S.2.1 dL_isMessage_510 (by decide) ?_
    refine W.widen (k := 86) (n := 516) (by omega) (by omega) ?_
    exact hB511  (nI 0) μ H locs ls hM hS (lv_sub hl [] rfl) h
  have hB506 : ∀ (μ : mmT) (H : Heap) (locs : List Loc) (ls : Array Slot), Mm G μ H → va_S (Ah G) s.heap H locs → lv_has ls 14 [] → w_L_isMessage_b506 G Q  μ → W p l e { frames := 9, cells := 86, slots := 516, locals := 239 } s m args below meth c H locs (86) (516) (MQ below (mQ G (pI Q)) args s 86 516 (Ah G)) (F0 m 506 ls []) := by
    intro  μ H locs ls hM hS hl h
    unfold w_L_isMessage_b506 at h
    refine lv_iconst (v := (nI 1)) S.1 S.2.1 dL_isMessage_506 (by decide) ?_
    refine lv_goto (tgt := 511) S.1 S.2.1 dL_isMessage_507 (by decide) ?_
    refine W.widen (k := 86) (n := 516) (by omega) (by omega) ?_
    exact hB511  (nI 1) μ H locs ls hM hS (lv_sub hl [] rfl) h
  have hB463 : ∀ (r0 : Option Nat) (x2 : Int32) (x4 : Int32) (μ : mmT) (H : Heap) (locs : List Loc) (ls : Array Slot), Mm G μ H → va_S (Ah G) s.heap H locs → lv_has ls 14 [(0, va_rf r0), (2, .int x2), (4, .int x4)] → w_L_isMessage_b463 G Q  r0 x2 x4 μ → W p l e { frames := 9, cells := 86, slots := 516, locals := 239 } s m args below meth c H locs (82) (492) (MQ below (mQ G (pI Q)) args s 86 516 (Ah G)) (F0 m 463 ls []) := by
    intro  r0 x2 x4 μ H locs ls hM hS hl h
    unfold w_L_isMessage_b463 at h
    refine lv_iload_n S.1 S.2.1 dL_isMessage_463 rfl (lv_at hl 1 rfl) ?_
    refine mz_aload_n (x := r0) S.1 S.2.1 dL_isMessage_464 rfl (lv_at hl 0 rfl) ?_
    obtain ⟨a38, e39, h⟩ := h
    refine mz_o0 e39 ?_
    obtain ⟨k40, h⟩ := h
    refine mz_V S hG hM hS cf_9 k40 (As := []) (rest := [.int x2]) (c_X10_publishedTotal h) yf_X10_publishedTotal tw_1113 tw_1114 tw_1115 ⟨Nat.le_of_ble_eq_true rfl, Nat.le_of_ble_eq_true rfl⟩ ⟨(Nat.le_of_ble_eq_true rfl), (Nat.le_of_ble_eq_true rfl)⟩ rfl hl.1 rfl (Nat.le_of_ble_eq_true rfl) dL_isMessage_465 (fun v9 μ9 H locs hp hM hS => ?_)
    obtain ⟨u41, rfl, e9, h⟩ := hp
    rw [e9] at hM
    refine W.cs (cells' := 82) (slots' := 492) rfl rfl ?_
    refine lv_icmp_ge (tgt := 510) S.1 S.2.1 dL_isMessage_468 (by decide) (fun c42 => ?_) (fun c42 => ?_)
    · have h := h.1 c42
      refine W.widen (k := 86) (n := 516) (by omega) (by omega) ?_
      exact hB510  μ H locs ls hM hS (lv_sub hl [] rfl) h
    · have h := h.2 c42
      refine mz_aload_n (x := r0) S.1 S.2.1 dL_isMessage_471 rfl (lv_at hl 0 rfl) ?_
      refine lv_iload_n S.1 S.2.1 dL_isMessage_472 rfl (lv_at hl 1 rfl) ?_
      refine mz_SH S hG hM hS (As := [va_rf r0, .int x2]) (rest := []) (c_L_keyOf hl0 h) yh_L_keyOf tw_1198 tw_1199 ⟨Nat.le_of_ble_eq_true rfl, Nat.le_of_ble_eq_true rfl⟩ ⟨(Nat.le_of_ble_eq_true rfl), (Nat.le_of_ble_eq_true rfl)⟩ rfl hl.1 rfl (Nat.le_of_ble_eq_true rfl) dL_isMessage_473 (fun v9 μ9 H locs hp hM hS => ?_)
      obtain ⟨u43, rfl, e9, h⟩ := hp
      rw [e9] at hM
      refine W.cs (cells' := 83) (slots' := 498) rfl rfl ?_
      refine lv_if_lt (tgt := 510) S.1 S.2.1 dL_isMessage_476 (by decide) (fun c44 => ?_) (fun c44 => ?_)
      · have h := h.1 c44
        refine W.widen (k := 86) (n := 516) (by omega) (by omega) ?_
        exact hB510  μ H locs ls hM hS (lv_sub hl [] rfl) h
      · have h := h.2 c44
        refine mz_aload_n (x := r0) S.1 S.2.1 dL_isMessage_479 rfl (lv_at hl 0 rfl) ?_
        refine lv_iload_n S.1 S.2.1 dL_isMessage_480 rfl (lv_at hl 1 rfl) ?_
        refine mz_SH S hG hM hS (As := [va_rf r0, .int x2]) (rest := []) (c_L_keyOf hl0 h) yh_L_keyOf tw_1198 tw_1199 ⟨Nat.le_of_ble_eq_true rfl, Nat.le_of_ble_eq_true rfl⟩ ⟨(Nat.le_of_ble_eq_true rfl), (Nat.le_of_ble_eq_true rfl)⟩ rfl hl.1 rfl (Nat.le_of_ble_eq_true rfl) dL_isMessage_481 (fun v9 μ9 H locs hp hM hS => ?_)
        obtain ⟨u45, rfl, e9, h⟩ := hp
        rw [e9] at hM
        refine W.cs (cells' := 84) (slots' := 504) rfl rfl ?_
        refine lv_bipush (v := (nI 99)) S.1 S.2.1 dL_isMessage_484 (by decide) ?_
        refine lv_icmp_gt (tgt := 510) S.1 S.2.1 dL_isMessage_486 (by decide) (fun c46 => ?_) (fun c46 => ?_)
        · have h := h.1 c46
          refine W.widen (k := 86) (n := 516) (by omega) (by omega) ?_
          exact hB510  μ H locs ls hM hS (lv_sub hl [] rfl) h
        · have h := h.2 c46
          refine lv_iload S.1 S.2.1 dL_isMessage_489 (lv_at hl 2 rfl) ?_
          refine lv_bipush (v := (nI 100)) S.1 S.2.1 dL_isMessage_491 (by decide) ?_
          refine lv_icmp_ne (tgt := 506) S.1 S.2.1 dL_isMessage_493 (by decide) (fun c47 => ?_) (fun c47 => ?_)
          · have h := h.1 c47
            refine W.widen (k := 86) (n := 516) (by omega) (by omega) ?_
            exact hB506  μ H locs ls hM hS (lv_sub hl [] rfl) h
          · have h := h.2 c47
            refine mz_aload_n (x := r0) S.1 S.2.1 dL_isMessage_496 rfl (lv_at hl 0 rfl) ?_
            refine lv_iload_n S.1 S.2.1 dL_isMessage_497 rfl (lv_at hl 1 rfl) ?_
            refine mz_SH S hG hM hS (As := [va_rf r0, .int x2]) (rest := []) (c_L_minutesUntilDelivered hl0 h) yh_L_minutesUntilDelivered tw_527 tw_528 ⟨Nat.le_of_ble_eq_true rfl, Nat.le_of_ble_eq_true rfl⟩ ⟨(Nat.le_of_ble_eq_true rfl), (Nat.le_of_ble_eq_true rfl)⟩ rfl hl.1 rfl (Nat.le_of_ble_eq_true rfl) dL_isMessage_498 (fun v9 μ49 H locs hp hM hS => ?_)
            obtain ⟨u48, rfl, h⟩ := hp
            refine W.cs (cells' := 86) (slots' := 516) rfl rfl ?_
            refine lv_bipush (v := (-79)) S.1 S.2.1 dL_isMessage_501 (by decide) ?_
            refine lv_icmp_ne (tgt := 510) S.1 S.2.1 dL_isMessage_503 (by decide) (fun c50 => ?_) (fun c50 => ?_)
            · have h := h.1 c50
              refine W.widen (k := 86) (n := 516) (by omega) (by omega) ?_
              exact hB510  μ49 H locs ls hM hS (lv_sub hl [] rfl) h
            · have h := h.2 c50
              refine W.widen (k := 86) (n := 516) (by omega) (by omega) ?_
              exact hB506  μ49 H locs ls hM hS (lv_sub hl [] rfl) h
  have hB439 : ∀ (r0 : Option Nat) (x1 : Int32) (x2 : Int32) (x4 : Int32) (x5 : Int32) (s0 : Int32) (s1 : Int32) (μ : mmT) (H : Heap) (locs : List Loc) (ls : Array Slot), Mm G μ H → va_S (Ah G) s.heap H locs → lv_has ls 14 [(0, va_rf r0), (1, .int x1), (2, .int x2), (4, .int x4), (5, .int x5)] → w_L_isMessage_b439 G Q  r0 x1 x2 x4 x5 s0 s1 μ → W p l e { frames := 9, cells := 86, slots := 516, locals := 239 } s m args below meth c H locs (81) (486) (MQ below (mQ G (pI Q)) args s 86 516 (Ah G)) (F0 m 439 ls [.int s1, .int s0]) := by
    intro  r0 x1 x2 x4 x5 s0 s1 μ H locs ls hM hS hl h
    unfold w_L_isMessage_b439 at h
    refine lv_icmp_lt (tgt := 510) S.1 S.2.1 dL_isMessage_439 (by decide) (fun c35 => ?_) (fun c35 => ?_)
    · have h := h.1 c35
      refine W.widen (k := 86) (n := 516) (by omega) (by omega) ?_
      exact hB510  μ H locs ls hM hS (lv_sub hl [] rfl) h
    · have h := h.2 c35
      refine lv_iload S.1 S.2.1 dL_isMessage_442 (lv_at hl 4 rfl) ?_
      refine lv_iconst (v := (nI 5)) S.1 S.2.1 dL_isMessage_444 (by decide) ?_
      refine lv_icmp_gt (tgt := 510) S.1 S.2.1 dL_isMessage_445 (by decide) (fun c36 => ?_) (fun c36 => ?_)
      · have h := h.1 c36
        refine W.widen (k := 86) (n := 516) (by omega) (by omega) ?_
        exact hB510  μ H locs ls hM hS (lv_sub hl [] rfl) h
      · have h := h.2 c36
        refine lv_iload_n S.1 S.2.1 dL_isMessage_448 rfl (lv_at hl 1 rfl) ?_
        refine lv_if_eq (tgt := 463) S.1 S.2.1 dL_isMessage_449 (by decide) (fun c37 => ?_) (fun c37 => ?_)
        · have h := h.1 c37
          refine W.widen (k := 82) (n := 492) (by omega) (by omega) ?_
          exact hB463  r0 x2 x4 μ H locs ls hM hS (lv_sub hl [0, 2, 3] rfl) h
        · have h := h.2 c37
          refine mz_aload_n (x := r0) S.1 S.2.1 dL_isMessage_452 rfl (lv_at hl 0 rfl) ?_
          refine lv_iload_n S.1 S.2.1 dL_isMessage_453 rfl (lv_at hl 1 rfl) ?_
          refine lv_iconst (v := (nI 1)) S.1 S.2.1 dL_isMessage_454 (by decide) ?_
          refine lv_isub S.1 S.2.1 dL_isMessage_455 ?_
          refine mz_SH S hG hM hS (As := [va_rf r0, .int (x1 - (nI 1))]) (rest := []) (c_L_messageAt hl0 h) yh_L_messageAt tw_405 tw_406 ⟨Nat.le_of_ble_eq_true rfl, Nat.le_of_ble_eq_true rfl⟩ ⟨(Nat.le_of_ble_eq_true rfl), (Nat.le_of_ble_eq_true rfl)⟩ rfl hl.1 rfl (Nat.le_of_ble_eq_true rfl) dL_isMessage_456 (fun v9 μ9 H locs hp hM hS => ?_)
          obtain ⟨u51, rfl, e9, h⟩ := hp
          rw [e9] at hM
          refine W.cs (cells' := 82) (slots' := 492) rfl rfl ?_
          refine lv_iload_n S.1 S.2.1 dL_isMessage_459 rfl (lv_at hl 2 rfl) ?_
          refine lv_icmp_ge (tgt := 510) S.1 S.2.1 dL_isMessage_460 (by decide) (fun c52 => ?_) (fun c52 => ?_)
          · have h := h.1 c52
            refine W.widen (k := 86) (n := 516) (by omega) (by omega) ?_
            exact hB510  μ H locs ls hM hS (lv_sub hl [] rfl) h
          · have h := h.2 c52
            refine W.widen (k := 82) (n := 492) (by omega) (by omega) ?_
            exact hB463  r0 x2 x4 μ H locs ls hM hS (lv_sub hl [0, 2, 3] rfl) h
  have hB403 : ∀ (r0 : Option Nat) (x1 : Int32) (x2 : Int32) (x4 : Int32) (x5 : Int32) (x9 : Int32) (x10 : Int32) (x12 : Int32) (s0 : Int32) (μ : mmT) (H : Heap) (locs : List Loc) (ls : Array Slot), Mm G μ H → va_S (Ah G) s.heap H locs → lv_has ls 14 [(0, va_rf r0), (1, .int x1), (2, .int x2), (4, .int x4), (5, .int x5), (9, .int x9), (10, .int x10), (12, .int x12)] → w_L_isMessage_b403 G Q  r0 x1 x2 x4 x5 x9 x10 x12 s0 μ → W p l e { frames := 9, cells := 86, slots := 516, locals := 239 } s m args below meth c H locs (81) (486) (MQ below (mQ G (pI Q)) args s 86 516 (Ah G)) (F0 m 403 ls [.int s0]) := by
    intro  r0 x1 x2 x4 x5 x9 x10 x12 s0 μ H locs ls hM hS hl h
    unfold w_L_isMessage_b403 at h
    refine lv_istore (lv' := [(13, .int s0), (0, va_rf r0), (1, .int x1), (2, .int x2), (4, .int x4), (5, .int x5), (9, .int x9), (10, .int x10), (12, .int x12)]) S.1 S.2.1 dL_isMessage_403 hl (by decide) rfl (fun ls hl => ?_)
    refine lv_iload S.1 S.2.1 dL_isMessage_405 (lv_at hl 6 rfl) ?_
    refine lv_if_eq (tgt := 510) S.1 S.2.1 dL_isMessage_407 (by decide) (fun c29 => ?_) (fun c29 => ?_)
    · have h := h.1 c29
      refine W.widen (k := 86) (n := 516) (by omega) (by omega) ?_
      exact hB510  μ H locs ls hM hS (lv_sub hl [] rfl) h
    · have h := h.2 c29
      refine lv_iload S.1 S.2.1 dL_isMessage_410 (lv_at hl 7 rfl) ?_
      refine lv_if_eq (tgt := 510) S.1 S.2.1 dL_isMessage_412 (by decide) (fun c31 => ?_) (fun c31 => ?_)
      · have h := h.1 c31
        refine W.widen (k := 86) (n := 516) (by omega) (by omega) ?_
        exact hB510  μ H locs ls hM hS (lv_sub hl [] rfl) h
      · have h := h.2 c31
        refine lv_iload S.1 S.2.1 dL_isMessage_415 (lv_at hl 8 rfl) ?_
        refine lv_if_eq (tgt := 510) S.1 S.2.1 dL_isMessage_417 (by decide) (fun c32 => ?_) (fun c32 => ?_)
        · have h := h.1 c32
          refine W.widen (k := 86) (n := 516) (by omega) (by omega) ?_
          exact hB510  μ H locs ls hM hS (lv_sub hl [] rfl) h
        · have h := h.2 c32
          refine lv_iload S.1 S.2.1 dL_isMessage_420 (lv_at hl 0 rfl) ?_
          refine lv_if_eq (tgt := 510) S.1 S.2.1 dL_isMessage_422 (by decide) (fun c33 => ?_) (fun c33 => ?_)
          · have h := h.1 c33
            refine W.widen (k := 86) (n := 516) (by omega) (by omega) ?_
            exact hB510  μ H locs ls hM hS (lv_sub hl [] rfl) h
          · have h := h.2 c33
            refine lv_iload S.1 S.2.1 dL_isMessage_425 (lv_at hl 5 rfl) ?_
            refine lv_iload S.1 S.2.1 dL_isMessage_427 (lv_at hl 4 rfl) ?_
            refine lv_bipush (v := (nI 100)) S.1 S.2.1 dL_isMessage_429 (by decide) ?_
            refine lv_icmp_ne (tgt := 438) S.1 S.2.1 dL_isMessage_431 (by decide) (fun c34 => ?_) (fun c34 => ?_)
            · have h := h.1 c34
              refine lv_iconst (v := (nI 0)) S.1 S.2.1 dL_isMessage_438 (by decide) ?_
              refine W.widen (k := 81) (n := 486) (by omega) (by omega) ?_
              exact hB439  r0 x1 x2 x4 x5 x5 (nI 0) μ H locs ls hM hS (lv_sub hl [1, 2, 3, 4, 5] rfl) h
            · have h := h.2 c34
              refine lv_iconst (v := (nI 1)) S.1 S.2.1 dL_isMessage_434 (by decide) ?_
              refine lv_goto (tgt := 439) S.1 S.2.1 dL_isMessage_435 (by decide) ?_
              refine W.widen (k := 81) (n := 486) (by omega) (by omega) ?_
              exact hB439  r0 x1 x2 x4 x5 x5 (nI 1) μ H locs ls hM hS (lv_sub hl [1, 2, 3, 4, 5] rfl) h
  have hB398 : ∀ (r0 : Option Nat) (x1 : Int32) (x2 : Int32) (x4 : Int32) (x5 : Int32) (x9 : Int32) (x10 : Int32) (x12 : Int32) (μ : mmT) (H : Heap) (locs : List Loc) (ls : Array Slot), Mm G μ H → va_S (Ah G) s.heap H locs → lv_has ls 14 [(0, va_rf r0), (1, .int x1), (2, .int x2), (4, .int x4), (5, .int x5), (9, .int x9), (10, .int x10), (12, .int x12)] → w_L_isMessage_b398 G Q  r0 x1 x2 x4 x5 x9 x10 x12 μ → W p l e { frames := 9, cells := 86, slots := 516, locals := 239 } s m args below meth c H locs (81) (486) (MQ below (mQ G (pI Q)) args s 86 516 (Ah G)) (F0 m 398 ls []) := by
    intro  r0 x1 x2 x4 x5 x9 x10 x12 μ H locs ls hM hS hl h
    unfold w_L_isMessage_b398 at h
    refine lv_iconst (v := (nI 1)) S.1 S.2.1 dL_isMessage_398 (by decide) ?_
    refine lv_goto (tgt := 403) S.1 S.2.1 dL_isMessage_399 (by decide) ?_
    refine W.widen (k := 81) (n := 486) (by omega) (by omega) ?_
    exact hB403  r0 x1 x2 x4 x5 x9 x10 x12 (nI 1) μ H locs ls hM hS (lv_sub hl [0, 1, 2, 3, 4, 5, 6, 7] rfl) h
  have hB402 : ∀ (r0 : Option Nat) (x1 : Int32) (x2 : Int32) (x4 : Int32) (x5 : Int32) (x9 : Int32) (x10 : Int32) (x12 : Int32) (μ : mmT) (H : Heap) (locs : List Loc) (ls : Array Slot), Mm G μ H → va_S (Ah G) s.heap H locs → lv_has ls 14 [(0, va_rf r0), (1, .int x1), (2, .int x2), (4, .int x4), (5, .int x5), (9, .int x9), (10, .int x10), (12, .int x12)] → w_L_isMessage_b402 G Q  r0 x1 x2 x4 x5 x9 x10 x12 μ → W p l e { frames := 9, cells := 86, slots := 516, locals := 239 } s m args below meth c H locs (81) (486) (MQ below (mQ G (pI Q)) args s 86 516 (Ah G)) (F0 m 402 ls []) := by
    intro  r0 x1 x2 x4 x5 x9 x10 x12 μ H locs ls hM hS hl h
    unfold w_L_isMessage_b402 at h
    refine lv_iconst (v := (nI 0)) S.1 S.2.1 dL_isMessage_402 (by decide) ?_
    refine W.widen (k := 81) (n := 486) (by omega) (by omega) ?_
    exact hB403  r0 x1 x2 x4 x5 x9 x10 x12 (nI 0) μ H locs ls hM hS (lv_sub hl [0, 1, 2, 3, 4, 5, 6, 7] rfl) h
  have hB365 : ∀ (r0 : Option Nat) (x1 : Int32) (x2 : Int32) (x3 : Int32) (x4 : Int32) (x5 : Int32) (x7 : Int32) (x9 : Int32) (x10 : Int32) (s0 : Int32) (μ : mmT) (H : Heap) (locs : List Loc) (ls : Array Slot), Mm G μ H → va_S (Ah G) s.heap H locs → lv_has ls 14 [(0, va_rf r0), (1, .int x1), (2, .int x2), (3, .int x3), (4, .int x4), (5, .int x5), (7, .int x7), (9, .int x9), (10, .int x10)] → w_L_isMessage_b365 G Q  r0 x1 x2 x3 x4 x5 x7 x9 x10 s0 μ → W p l e { frames := 9, cells := 86, slots := 516, locals := 239 } s m args below meth c H locs (78) (468) (MQ below (mQ G (pI Q)) args s 86 516 (Ah G)) (F0 m 365 ls [.int s0]) := by
    intro  r0 x1 x2 x3 x4 x5 x7 x9 x10 s0 μ H locs ls hM hS hl h
    unfold w_L_isMessage_b365 at h
    refine lv_istore (lv' := [(12, .int s0), (0, va_rf r0), (1, .int x1), (2, .int x2), (3, .int x3), (4, .int x4), (5, .int x5), (7, .int x7), (9, .int x9), (10, .int x10)]) S.1 S.2.1 dL_isMessage_365 hl (by decide) rfl (fun ls hl => ?_)
    refine lv_iload S.1 S.2.1 dL_isMessage_367 (lv_at hl 7 rfl) ?_
    refine lv_if_lt (tgt := 398) S.1 S.2.1 dL_isMessage_369 (by decide) (fun c28 => ?_) (fun c28 => ?_)
    · have h := h.1 c28
      refine W.widen (k := 81) (n := 486) (by omega) (by omega) ?_
      exact hB398  r0 x1 x2 x4 x5 x9 x10 s0 μ H locs ls hM hS (lv_sub hl [1, 2, 3, 5, 6, 8, 9, 0] rfl) h
    · have h := h.2 c28
      refine mz_aload_n (x := r0) S.1 S.2.1 dL_isMessage_372 rfl (lv_at hl 1 rfl) ?_
      refine lv_iload S.1 S.2.1 dL_isMessage_373 (lv_at hl 7 rfl) ?_
      refine mz_SH S hG hM hS (As := [va_rf r0, .int x7]) (rest := []) (c_L_flightMinutes hl0 h) yh_L_flightMinutes tw_1184 tw_1185 ⟨Nat.le_of_ble_eq_true rfl, Nat.le_of_ble_eq_true rfl⟩ ⟨(Nat.le_of_ble_eq_true rfl), (Nat.le_of_ble_eq_true rfl)⟩ rfl hl.1 rfl (Nat.le_of_ble_eq_true rfl) dL_isMessage_375 (fun v9 μ9 H locs hp hM hS => ?_)
      obtain ⟨u53, rfl, e9, h⟩ := hp
      rw [e9] at hM
      refine W.cs (cells' := 79) (slots' := 474) rfl rfl ?_
      refine lv_iconst (v := (nI 1)) S.1 S.2.1 dL_isMessage_378 (by decide) ?_
      refine lv_icmp_lt (tgt := 402) S.1 S.2.1 dL_isMessage_379 (by decide) (fun c54 => ?_) (fun c54 => ?_)
      · have h := h.1 c54
        refine W.widen (k := 81) (n := 486) (by omega) (by omega) ?_
        exact hB402  r0 x1 x2 x4 x5 x9 x10 s0 μ H locs ls hM hS (lv_sub hl [1, 2, 3, 5, 6, 8, 9, 0] rfl) h
      · have h := h.2 c54
        refine mz_aload_n (x := r0) S.1 S.2.1 dL_isMessage_382 rfl (lv_at hl 1 rfl) ?_
        refine lv_iload S.1 S.2.1 dL_isMessage_383 (lv_at hl 7 rfl) ?_
        refine mz_SH S hG hM hS (As := [va_rf r0, .int x7]) (rest := []) (c_L_flightMinutes hl0 h) yh_L_flightMinutes tw_1184 tw_1185 ⟨Nat.le_of_ble_eq_true rfl, Nat.le_of_ble_eq_true rfl⟩ ⟨(Nat.le_of_ble_eq_true rfl), (Nat.le_of_ble_eq_true rfl)⟩ rfl hl.1 rfl (Nat.le_of_ble_eq_true rfl) dL_isMessage_385 (fun v9 μ9 H locs hp hM hS => ?_)
        obtain ⟨u55, rfl, e9, h⟩ := hp
        rw [e9] at hM
        refine W.cs (cells' := 80) (slots' := 480) rfl rfl ?_
        refine mz_aload_n (x := r0) S.1 S.2.1 dL_isMessage_388 rfl (lv_at hl 1 rfl) ?_
        refine lv_iload_n S.1 S.2.1 dL_isMessage_389 rfl (lv_at hl 4 rfl) ?_
        refine mz_SH S hG hM hS (As := [va_rf r0, .int x3]) (rest := [.int u55]) (c_L_distance hl0 h) yh_L_distance tw_1123 tw_1124 ⟨Nat.le_of_ble_eq_true rfl, Nat.le_of_ble_eq_true rfl⟩ ⟨(Nat.le_of_ble_eq_true rfl), (Nat.le_of_ble_eq_true rfl)⟩ rfl hl.1 rfl (Nat.le_of_ble_eq_true rfl) dL_isMessage_390 (fun v9 μ9 H locs hp hM hS => ?_)
        obtain ⟨u56, rfl, e9, h⟩ := hp
        rw [e9] at hM
        refine W.cs (cells' := 81) (slots' := 486) rfl rfl ?_
        refine lv_iconst (v := (nI 1)) S.1 S.2.1 dL_isMessage_393 (by decide) ?_
        refine lv_iadd S.1 S.2.1 dL_isMessage_394 ?_
        refine lv_icmp_gt (tgt := 402) S.1 S.2.1 dL_isMessage_395 (by decide) (fun c57 => ?_) (fun c57 => ?_)
        · have h := h.1 c57
          refine W.widen (k := 81) (n := 486) (by omega) (by omega) ?_
          exact hB402  r0 x1 x2 x4 x5 x9 x10 s0 μ H locs ls hM hS (lv_sub hl [1, 2, 3, 5, 6, 8, 9, 0] rfl) h
        · have h := h.2 c57
          refine W.widen (k := 81) (n := 486) (by omega) (by omega) ?_
          exact hB398  r0 x1 x2 x4 x5 x9 x10 s0 μ H locs ls hM hS (lv_sub hl [1, 2, 3, 5, 6, 8, 9, 0] rfl) h
  have hB357 : ∀ (r0 : Option Nat) (x1 : Int32) (x2 : Int32) (x3 : Int32) (x4 : Int32) (x5 : Int32) (x7 : Int32) (x9 : Int32) (x10 : Int32) (s0 : Int32) (s1 : Int32) (μ : mmT) (H : Heap) (locs : List Loc) (ls : Array Slot), Mm G μ H → va_S (Ah G) s.heap H locs → lv_has ls 14 [(0, va_rf r0), (1, .int x1), (2, .int x2), (3, .int x3), (4, .int x4), (5, .int x5), (7, .int x7), (9, .int x9), (10, .int x10)] → w_L_isMessage_b357 G Q  r0 x1 x2 x3 x4 x5 x7 x9 x10 s0 s1 μ → W p l e { frames := 9, cells := 86, slots := 516, locals := 239 } s m args below meth c H locs (78) (468) (MQ below (mQ G (pI Q)) args s 86 516 (Ah G)) (F0 m 357 ls [.int s1, .int s0]) := by
    intro  r0 x1 x2 x3 x4 x5 x7 x9 x10 s0 s1 μ H locs ls hM hS hl h
    unfold w_L_isMessage_b357 at h
    refine lv_icmp_ne (tgt := 364) S.1 S.2.1 dL_isMessage_357 (by decide) (fun c27 => ?_) (fun c27 => ?_)
    · have h := h.1 c27
      refine lv_iconst (v := (nI 0)) S.1 S.2.1 dL_isMessage_364 (by decide) ?_
      refine W.widen (k := 78) (n := 468) (by omega) (by omega) ?_
      exact hB365  r0 x1 x2 x3 x4 x5 x7 x9 x10 (nI 0) μ H locs ls hM hS (lv_sub hl [0, 1, 2, 3, 4, 5, 6, 7, 8] rfl) h
    · have h := h.2 c27
      refine lv_iconst (v := (nI 1)) S.1 S.2.1 dL_isMessage_360 (by decide) ?_
      refine lv_goto (tgt := 365) S.1 S.2.1 dL_isMessage_361 (by decide) ?_
      refine W.widen (k := 78) (n := 468) (by omega) (by omega) ?_
      exact hB365  r0 x1 x2 x3 x4 x5 x7 x9 x10 (nI 1) μ H locs ls hM hS (lv_sub hl [0, 1, 2, 3, 4, 5, 6, 7, 8] rfl) h
  have hB298 : ∀ (r0 : Option Nat) (x1 : Int32) (x2 : Int32) (x3 : Int32) (x4 : Int32) (x5 : Int32) (x7 : Int32) (x9 : Int32) (s0 : Int32) (μ : mmT) (H : Heap) (locs : List Loc) (ls : Array Slot), Mm G μ H → va_S (Ah G) s.heap H locs → lv_has ls 14 [(0, va_rf r0), (1, .int x1), (2, .int x2), (3, .int x3), (4, .int x4), (5, .int x5), (7, .int x7), (9, .int x9)] → w_L_isMessage_b298 G Q  r0 x1 x2 x3 x4 x5 x7 x9 s0 μ → W p l e { frames := 9, cells := 86, slots := 516, locals := 239 } s m args below meth c H locs (75) (450) (MQ below (mQ G (pI Q)) args s 86 516 (Ah G)) (F0 m 298 ls [.int s0]) := by
    intro  r0 x1 x2 x3 x4 x5 x7 x9 s0 μ H locs ls hM hS hl h
    unfold w_L_isMessage_b298 at h
    refine lv_istore (lv' := [(10, .int s0), (0, va_rf r0), (1, .int x1), (2, .int x2), (3, .int x3), (4, .int x4), (5, .int x5), (7, .int x7), (9, .int x9)]) S.1 S.2.1 dL_isMessage_298 hl (by decide) rfl (fun ls hl => ?_)
    refine mz_aload_n (x := r0) S.1 S.2.1 dL_isMessage_300 rfl (lv_at hl 1 rfl) ?_
    refine lv_iload_n S.1 S.2.1 dL_isMessage_301 rfl (lv_at hl 3 rfl) ?_
    refine mz_SH S hG hM hS (As := [va_rf r0, .int x2]) (rest := []) (c_L_wouldBeLost hl0 h) yh_L_wouldBeLost tw_1238 tw_1239 ⟨Nat.le_of_ble_eq_true rfl, Nat.le_of_ble_eq_true rfl⟩ ⟨(Nat.le_of_ble_eq_true rfl), (Nat.le_of_ble_eq_true rfl)⟩ rfl hl.1 rfl (Nat.le_of_ble_eq_true rfl) dL_isMessage_302 (fun v9 μ9 H locs hp hM hS => ?_)
    obtain ⟨u18, rfl, e9, h⟩ := hp
    rw [e9] at hM
    refine W.cs (cells' := 77) (slots' := 462) rfl rfl ?_
    refine lv_istore (lv' := [(11, .int u18), (10, .int s0), (0, va_rf r0), (1, .int x1), (2, .int x2), (3, .int x3), (4, .int x4), (5, .int x5), (7, .int x7), (9, .int x9)]) S.1 S.2.1 dL_isMessage_305 hl (by decide) rfl (fun ls hl => ?_)
    refine lv_iload S.1 S.2.1 dL_isMessage_307 (lv_at hl 6 rfl) ?_
    refine lv_bipush (v := (nI 100)) S.1 S.2.1 dL_isMessage_309 (by decide) ?_
    refine lv_icmp_ne (tgt := 329) S.1 S.2.1 dL_isMessage_311 (by decide) (fun c19 => ?_) (fun c19 => ?_)
    · have h := h.1 c19
      refine lv_iload S.1 S.2.1 dL_isMessage_329 (lv_at hl 0 rfl) ?_
      refine lv_iload_n S.1 S.2.1 dL_isMessage_331 rfl (lv_at hl 4 rfl) ?_
      refine lv_iload S.1 S.2.1 dL_isMessage_332 (lv_at hl 7 rfl) ?_
      refine lv_iadd S.1 S.2.1 dL_isMessage_334 ?_
      refine lv_iconst (v := (nI 1)) S.1 S.2.1 dL_isMessage_335 (by decide) ?_
      refine lv_iadd S.1 S.2.1 dL_isMessage_336 ?_
      refine mz_aload_n (x := r0) S.1 S.2.1 dL_isMessage_337 rfl (lv_at hl 2 rfl) ?_
      obtain ⟨a20, e21, h⟩ := h
      refine mz_o0 e21 ?_
      obtain ⟨k22, h⟩ := h
      refine mz_V S hG hM hS cf_9 k22 (As := []) (rest := [.int ((x2 + x5) + (nI 1)), .int u18]) (c_X10_wind h) yf_X10_wind tw_1108 tw_1109 tw_1110 ⟨Nat.le_of_ble_eq_true rfl, Nat.le_of_ble_eq_true rfl⟩ ⟨(Nat.le_of_ble_eq_true rfl), (Nat.le_of_ble_eq_true rfl)⟩ rfl hl.1 rfl (Nat.le_of_ble_eq_true rfl) dL_isMessage_338 (fun v9 μ9 H locs hp hM hS => ?_)
      obtain ⟨u23, rfl, e9, h⟩ := hp
      rw [e9] at hM
      refine W.cs (cells' := 77) (slots' := 462) rfl rfl ?_
      refine lv_iadd S.1 S.2.1 dL_isMessage_341 ?_
      refine lv_iconst (v := (nI 5)) S.1 S.2.1 dL_isMessage_342 (by decide) ?_
      refine lv_irem S.1 S.2.1 dL_isMessage_343 (by decide) ?_
      refine mz_aload_n (x := r0) S.1 S.2.1 dL_isMessage_344 rfl (lv_at hl 2 rfl) ?_
      refine lv_iload_n S.1 S.2.1 dL_isMessage_345 rfl (lv_at hl 5 rfl) ?_
      refine mz_SH S hG hM hS (As := [va_rf r0, .int x3]) (rest := [.int ((((x2 + x5) + (nI 1)) + u23) - (((x2 + x5) + (nI 1)) + u23) / (nI 5) * (nI 5)), .int u18]) (c_L_loss hl0 h) yh_L_loss tw_1135 tw_1136 ⟨Nat.le_of_ble_eq_true rfl, Nat.le_of_ble_eq_true rfl⟩ ⟨(Nat.le_of_ble_eq_true rfl), (Nat.le_of_ble_eq_true rfl)⟩ rfl hl.1 rfl (Nat.le_of_ble_eq_true rfl) dL_isMessage_346 (fun v9 μ9 H locs hp hM hS => ?_)
      obtain ⟨u25, rfl, e9, h⟩ := hp
      rw [e9] at hM
      refine W.cs (cells' := 78) (slots' := 468) rfl rfl ?_
      refine lv_icmp_ge (tgt := 356) S.1 S.2.1 dL_isMessage_349 (by decide) (fun c26 => ?_) (fun c26 => ?_)
      · have h := h.1 c26
        refine lv_iconst (v := (nI 0)) S.1 S.2.1 dL_isMessage_356 (by decide) ?_
        refine W.widen (k := 78) (n := 468) (by omega) (by omega) ?_
        exact hB357  r0 x1 x2 x3 x4 x5 x7 x9 s0 u18 (nI 0) μ H locs ls hM hS (lv_sub hl [2, 3, 4, 5, 6, 7, 8, 9, 1] rfl) h
      · have h := h.2 c26
        refine lv_iconst (v := (nI 1)) S.1 S.2.1 dL_isMessage_352 (by decide) ?_
        refine lv_goto (tgt := 357) S.1 S.2.1 dL_isMessage_353 (by decide) ?_
        refine W.widen (k := 78) (n := 468) (by omega) (by omega) ?_
        exact hB357  r0 x1 x2 x3 x4 x5 x7 x9 s0 u18 (nI 1) μ H locs ls hM hS (lv_sub hl [2, 3, 4, 5, 6, 7, 8, 9, 1] rfl) h
    · have h := h.2 c19
      refine lv_iload S.1 S.2.1 dL_isMessage_314 (lv_at hl 0 rfl) ?_
      refine lv_bipush (v := (-79)) S.1 S.2.1 dL_isMessage_316 (by decide) ?_
      refine lv_icmp_ne (tgt := 325) S.1 S.2.1 dL_isMessage_318 (by decide) (fun c58 => ?_) (fun c58 => ?_)
      · have h := h.1 c58
        refine lv_iconst (v := (nI 0)) S.1 S.2.1 dL_isMessage_325 (by decide) ?_
        refine lv_goto (tgt := 365) S.1 S.2.1 dL_isMessage_326 (by decide) ?_
        refine W.widen (k := 78) (n := 468) (by omega) (by omega) ?_
        exact hB365  r0 x1 x2 x3 x4 x5 x7 x9 s0 (nI 0) μ H locs ls hM hS (lv_sub hl [2, 3, 4, 5, 6, 7, 8, 9, 1] rfl) h
      · have h := h.2 c58
        refine lv_iconst (v := (nI 1)) S.1 S.2.1 dL_isMessage_321 (by decide) ?_
        refine lv_goto (tgt := 365) S.1 S.2.1 dL_isMessage_322 (by decide) ?_
        refine W.widen (k := 78) (n := 468) (by omega) (by omega) ?_
        exact hB365  r0 x1 x2 x3 x4 x5 x7 x9 s0 (nI 1) μ H locs ls hM hS (lv_sub hl [2, 3, 4, 5, 6, 7, 8, 9, 1] rfl) h
  have hB293 : ∀ (r0 : Option Nat) (x1 : Int32) (x2 : Int32) (x3 : Int32) (x4 : Int32) (x5 : Int32) (x7 : Int32) (x9 : Int32) (μ : mmT) (H : Heap) (locs : List Loc) (ls : Array Slot), Mm G μ H → va_S (Ah G) s.heap H locs → lv_has ls 14 [(0, va_rf r0), (1, .int x1), (2, .int x2), (3, .int x3), (4, .int x4), (5, .int x5), (7, .int x7), (9, .int x9)] → w_L_isMessage_b293 G Q  r0 x1 x2 x3 x4 x5 x7 x9 μ → W p l e { frames := 9, cells := 86, slots := 516, locals := 239 } s m args below meth c H locs (75) (450) (MQ below (mQ G (pI Q)) args s 86 516 (Ah G)) (F0 m 293 ls []) := by
    intro  r0 x1 x2 x3 x4 x5 x7 x9 μ H locs ls hM hS hl h
    unfold w_L_isMessage_b293 at h
    refine lv_iconst (v := (nI 1)) S.1 S.2.1 dL_isMessage_293 (by decide) ?_
    refine lv_goto (tgt := 298) S.1 S.2.1 dL_isMessage_294 (by decide) ?_
    refine W.widen (k := 75) (n := 450) (by omega) (by omega) ?_
    exact hB298  r0 x1 x2 x3 x4 x5 x7 x9 (nI 1) μ H locs ls hM hS (lv_sub hl [0, 1, 2, 3, 4, 5, 6, 7] rfl) h
  have hB297 : ∀ (r0 : Option Nat) (x1 : Int32) (x2 : Int32) (x3 : Int32) (x4 : Int32) (x5 : Int32) (x7 : Int32) (x9 : Int32) (μ : mmT) (H : Heap) (locs : List Loc) (ls : Array Slot), Mm G μ H → va_S (Ah G) s.heap H locs → lv_has ls 14 [(0, va_rf r0), (1, .int x1), (2, .int x2), (3, .int x3), (4, .int x4), (5, .int x5), (7, .int x7), (9, .int x9)] → w_L_isMessage_b297 G Q  r0 x1 x2 x3 x4 x5 x7 x9 μ → W p l e { frames := 9, cells := 86, slots := 516, locals := 239 } s m args below meth c H locs (75) (450) (MQ below (mQ G (pI Q)) args s 86 516 (Ah G)) (F0 m 297 ls []) := by
    intro  r0 x1 x2 x3 x4 x5 x7 x9 μ H locs ls hM hS hl h
    unfold w_L_isMessage_b297 at h
    refine lv_iconst (v := (nI 0)) S.1 S.2.1 dL_isMessage_297 (by decide) ?_
    refine W.widen (k := 75) (n := 450) (by omega) (by omega) ?_
    exact hB298  r0 x1 x2 x3 x4 x5 x7 x9 (nI 0) μ H locs ls hM hS (lv_sub hl [0, 1, 2, 3, 4, 5, 6, 7] rfl) h
  have hB256 : ∀ (r0 : Option Nat) (x1 : Int32) (x2 : Int32) (x3 : Int32) (x4 : Int32) (x5 : Int32) (x7 : Int32) (s0 : Int32) (μ : mmT) (H : Heap) (locs : List Loc) (ls : Array Slot), Mm G μ H → va_S (Ah G) s.heap H locs → lv_has ls 14 [(0, va_rf r0), (1, .int x1), (2, .int x2), (3, .int x3), (4, .int x4), (5, .int x5), (7, .int x7)] → w_L_isMessage_b256 G Q  r0 x1 x2 x3 x4 x5 x7 s0 μ → W p l e { frames := 9, cells := 86, slots := 516, locals := 239 } s m args below meth c H locs (72) (432) (MQ below (mQ G (pI Q)) args s 86 516 (Ah G)) (F0 m 256 ls [.int s0]) := by
    intro  r0 x1 x2 x3 x4 x5 x7 s0 μ H locs ls hM hS hl h
    unfold w_L_isMessage_b256 at h
    refine lv_istore (lv' := [(9, .int s0), (0, va_rf r0), (1, .int x1), (2, .int x2), (3, .int x3), (4, .int x4), (5, .int x5), (7, .int x7)]) S.1 S.2.1 dL_isMessage_256 hl (by decide) rfl (fun ls hl => ?_)
    refine lv_iload S.1 S.2.1 dL_isMessage_258 (lv_at hl 5 rfl) ?_
    refine lv_bipush (v := (nI 110)) S.1 S.2.1 dL_isMessage_260 (by decide) ?_
    refine lv_icmp_ne (tgt := 293) S.1 S.2.1 dL_isMessage_262 (by decide) (fun c17 => ?_) (fun c17 => ?_)
    · have h := h.1 c17
      refine W.widen (k := 75) (n := 450) (by omega) (by omega) ?_
      exact hB293  r0 x1 x2 x3 x4 x5 x7 s0 μ H locs ls hM hS (lv_sub hl [1, 2, 3, 4, 5, 6, 7, 0] rfl) h
    · have h := h.2 c17
      refine lv_iload S.1 S.2.1 dL_isMessage_265 (lv_at hl 6 rfl) ?_
      refine lv_iconst (v := (nI 1)) S.1 S.2.1 dL_isMessage_267 (by decide) ?_
      refine lv_icmp_lt (tgt := 297) S.1 S.2.1 dL_isMessage_268 (by decide) (fun c59 => ?_) (fun c59 => ?_)
      · have h := h.1 c59
        refine W.widen (k := 75) (n := 450) (by omega) (by omega) ?_
        exact hB297  r0 x1 x2 x3 x4 x5 x7 s0 μ H locs ls hM hS (lv_sub hl [1, 2, 3, 4, 5, 6, 7, 0] rfl) h
      · have h := h.2 c59
        refine lv_iload S.1 S.2.1 dL_isMessage_271 (lv_at hl 6 rfl) ?_
        refine lv_iconst (v := (nI 5)) S.1 S.2.1 dL_isMessage_273 (by decide) ?_
        refine lv_icmp_ge (tgt := 297) S.1 S.2.1 dL_isMessage_274 (by decide) (fun c60 => ?_) (fun c60 => ?_)
        · have h := h.1 c60
          refine W.widen (k := 75) (n := 450) (by omega) (by omega) ?_
          exact hB297  r0 x1 x2 x3 x4 x5 x7 s0 μ H locs ls hM hS (lv_sub hl [1, 2, 3, 4, 5, 6, 7, 0] rfl) h
        · have h := h.2 c60
          refine mz_aload_n (x := r0) S.1 S.2.1 dL_isMessage_277 rfl (lv_at hl 1 rfl) ?_
          refine lv_iload_n S.1 S.2.1 dL_isMessage_278 rfl (lv_at hl 3 rfl) ?_
          refine mz_SH S hG hM hS (As := [va_rf r0, .int x2]) (rest := []) (c_L_napMinutes hl0 h) yh_L_napMinutes tw_503 tw_504 ⟨Nat.le_of_ble_eq_true rfl, Nat.le_of_ble_eq_true rfl⟩ ⟨(Nat.le_of_ble_eq_true rfl), (Nat.le_of_ble_eq_true rfl)⟩ rfl hl.1 rfl (Nat.le_of_ble_eq_true rfl) dL_isMessage_279 (fun v9 μ9 H locs hp hM hS => ?_)
          obtain ⟨u61, rfl, e9, h⟩ := hp
          rw [e9] at hM
          refine W.cs (cells' := 74) (slots' := 444) rfl rfl ?_
          refine lv_i2l S.1 S.2.1 dL_isMessage_282 rfl ?_
          refine mz_aload_n (x := r0) S.1 S.2.1 dL_isMessage_283 rfl (lv_at hl 1 rfl) ?_
          refine lv_iload S.1 S.2.1 dL_isMessage_284 (lv_at hl 6 rfl) ?_
          refine mz_SH S hG hM hS (As := [va_rf r0, .int x5]) (rest := [.long u61.toInt64]) (c_L_napLength hl0 h) yh_L_napLength tw_1228 tw_1229 ⟨Nat.le_of_ble_eq_true rfl, Nat.le_of_ble_eq_true rfl⟩ ⟨(Nat.le_of_ble_eq_true rfl), (Nat.le_of_ble_eq_true rfl)⟩ rfl hl.1 rfl (Nat.le_of_ble_eq_true rfl) dL_isMessage_286 (fun v9 μ9 H locs hp hM hS => ?_)
          obtain ⟨u62, rfl, e9, h⟩ := hp
          rw [e9] at hM
          refine W.cs (cells' := 75) (slots' := 450) rfl rfl ?_
          refine W.lcmp S.1 S.2.1 dL_isMessage_289 ?_
          refine lv_if_gt (tgt := 297) S.1 S.2.1 dL_isMessage_290 (by decide) (fun c63 => ?_) (fun c63 => ?_)
          · have h := h.1 c63
            refine W.widen (k := 75) (n := 450) (by omega) (by omega) ?_
            exact hB297  r0 x1 x2 x3 x4 x5 x7 s0 μ H locs ls hM hS (lv_sub hl [1, 2, 3, 4, 5, 6, 7, 0] rfl) h
          · have h := h.2 c63
            refine W.widen (k := 75) (n := 450) (by omega) (by omega) ?_
            exact hB293  r0 x1 x2 x3 x4 x5 x7 s0 μ H locs ls hM hS (lv_sub hl [1, 2, 3, 4, 5, 6, 7, 0] rfl) h
  have hB255 : ∀ (r0 : Option Nat) (x1 : Int32) (x2 : Int32) (x3 : Int32) (x4 : Int32) (x5 : Int32) (x7 : Int32) (μ : mmT) (H : Heap) (locs : List Loc) (ls : Array Slot), Mm G μ H → va_S (Ah G) s.heap H locs → lv_has ls 14 [(0, va_rf r0), (1, .int x1), (2, .int x2), (3, .int x3), (4, .int x4), (5, .int x5), (7, .int x7)] → w_L_isMessage_b255 G Q  r0 x1 x2 x3 x4 x5 x7 μ → W p l e { frames := 9, cells := 86, slots := 516, locals := 239 } s m args below meth c H locs (72) (432) (MQ below (mQ G (pI Q)) args s 86 516 (Ah G)) (F0 m 255 ls []) := by
    intro  r0 x1 x2 x3 x4 x5 x7 μ H locs ls hM hS hl h
    unfold w_L_isMessage_b255 at h
    refine lv_iconst (v := (nI 0)) S.1 S.2.1 dL_isMessage_255 (by decide) ?_
    refine W.widen (k := 72) (n := 432) (by omega) (by omega) ?_
    exact hB256  r0 x1 x2 x3 x4 x5 x7 (nI 0) μ H locs ls hM hS (lv_sub hl [0, 1, 2, 3, 4, 5, 6] rfl) h
  have hB248 : ∀ (r0 : Option Nat) (x1 : Int32) (x2 : Int32) (x3 : Int32) (x4 : Int32) (x5 : Int32) (x7 : Int32) (s0 : Int32) (s1 : Int32) (μ : mmT) (H : Heap) (locs : List Loc) (ls : Array Slot), Mm G μ H → va_S (Ah G) s.heap H locs → lv_has ls 14 [(0, va_rf r0), (1, .int x1), (2, .int x2), (3, .int x3), (4, .int x4), (5, .int x5), (7, .int x7)] → w_L_isMessage_b248 G Q  r0 x1 x2 x3 x4 x5 x7 s0 s1 μ → W p l e { frames := 9, cells := 86, slots := 516, locals := 239 } s m args below meth c H locs (72) (432) (MQ below (mQ G (pI Q)) args s 86 516 (Ah G)) (F0 m 248 ls [.int s1, .int s0]) := by
    intro  r0 x1 x2 x3 x4 x5 x7 s0 s1 μ H locs ls hM hS hl h
    unfold w_L_isMessage_b248 at h
    refine lv_icmp_ne (tgt := 255) S.1 S.2.1 dL_isMessage_248 (by decide) (fun c73 => ?_) (fun c73 => ?_)
    · have h := h.1 c73
      refine W.widen (k := 72) (n := 432) (by omega) (by omega) ?_
      exact hB255  r0 x1 x2 x3 x4 x5 x7 μ H locs ls hM hS (lv_sub hl [0, 1, 2, 3, 4, 5, 6] rfl) h
    · have h := h.2 c73
      refine lv_iconst (v := (nI 1)) S.1 S.2.1 dL_isMessage_251 (by decide) ?_
      refine lv_goto (tgt := 256) S.1 S.2.1 dL_isMessage_252 (by decide) ?_
      refine W.widen (k := 72) (n := 432) (by omega) (by omega) ?_
      exact hB256  r0 x1 x2 x3 x4 x5 x7 (nI 1) μ H locs ls hM hS (lv_sub hl [0, 1, 2, 3, 4, 5, 6] rfl) h
  have hB235 : ∀ (r0 : Option Nat) (x1 : Int32) (x2 : Int32) (x3 : Int32) (x4 : Int32) (x5 : Int32) (x7 : Int32) (s0 : Int32) (μ : mmT) (H : Heap) (locs : List Loc) (ls : Array Slot), Mm G μ H → va_S (Ah G) s.heap H locs → lv_has ls 14 [(0, va_rf r0), (1, .int x1), (2, .int x2), (3, .int x3), (4, .int x4), (5, .int x5), (7, .int x7)] → w_L_isMessage_b235 G Q  r0 x1 x2 x3 x4 x5 x7 s0 μ → W p l e { frames := 9, cells := 86, slots := 516, locals := 239 } s m args below meth c H locs (70) (420) (MQ below (mQ G (pI Q)) args s 86 516 (Ah G)) (F0 m 235 ls [.int s0]) := by
    intro  r0 x1 x2 x3 x4 x5 x7 s0 μ H locs ls hM hS hl h
    unfold w_L_isMessage_b235 at h
    refine mz_aload_n (x := r0) S.1 S.2.1 dL_isMessage_235 rfl (lv_at hl 0 rfl) ?_
    refine lv_iload_n S.1 S.2.1 dL_isMessage_236 rfl (lv_at hl 2 rfl) ?_
    refine mz_SH S hG hM hS (As := [va_rf r0, .int x2]) (rest := [.int s0]) (c_L_napMinutes hl0 h) yh_L_napMinutes tw_503 tw_504 ⟨Nat.le_of_ble_eq_true rfl, Nat.le_of_ble_eq_true rfl⟩ ⟨(Nat.le_of_ble_eq_true rfl), (Nat.le_of_ble_eq_true rfl)⟩ rfl hl.1 rfl (Nat.le_of_ble_eq_true rfl) dL_isMessage_237 (fun v9 μ9 H locs hp hM hS => ?_)
    obtain ⟨u71, rfl, e9, h⟩ := hp
    rw [e9] at hM
    refine W.cs (cells' := 72) (slots' := 432) rfl rfl ?_
    refine lv_if_le (tgt := 247) S.1 S.2.1 dL_isMessage_240 (by decide) (fun c72 => ?_) (fun c72 => ?_)
    · have h := h.1 c72
      refine lv_iconst (v := (nI 0)) S.1 S.2.1 dL_isMessage_247 (by decide) ?_
      refine W.widen (k := 72) (n := 432) (by omega) (by omega) ?_
      exact hB248  r0 x1 x2 x3 x4 x5 x7 s0 (nI 0) μ H locs ls hM hS (lv_sub hl [0, 1, 2, 3, 4, 5, 6] rfl) h
    · have h := h.2 c72
      refine lv_iconst (v := (nI 1)) S.1 S.2.1 dL_isMessage_243 (by decide) ?_
      refine lv_goto (tgt := 248) S.1 S.2.1 dL_isMessage_244 (by decide) ?_
      refine W.widen (k := 72) (n := 432) (by omega) (by omega) ?_
      exact hB248  r0 x1 x2 x3 x4 x5 x7 s0 (nI 1) μ H locs ls hM hS (lv_sub hl [0, 1, 2, 3, 4, 5, 6] rfl) h
  have hB220 : ∀ (r0 : Option Nat) (x1 : Int32) (x2 : Int32) (x3 : Int32) (x4 : Int32) (x5 : Int32) (x7 : Int32) (s0 : Int32) (s1 : Int32) (μ : mmT) (H : Heap) (locs : List Loc) (ls : Array Slot), Mm G μ H → va_S (Ah G) s.heap H locs → lv_has ls 14 [(0, va_rf r0), (1, .int x1), (2, .int x2), (3, .int x3), (4, .int x4), (5, .int x5), (7, .int x7)] → w_L_isMessage_b220 G Q  r0 x1 x2 x3 x4 x5 x7 s0 s1 μ → W p l e { frames := 9, cells := 86, slots := 516, locals := 239 } s m args below meth c H locs (70) (420) (MQ below (mQ G (pI Q)) args s 86 516 (Ah G)) (F0 m 220 ls [.int s1, .int s0]) := by
    intro  r0 x1 x2 x3 x4 x5 x7 s0 s1 μ H locs ls hM hS hl h
    unfold w_L_isMessage_b220 at h
    refine lv_icmp_ne (tgt := 255) S.1 S.2.1 dL_isMessage_220 (by decide) (fun c69 => ?_) (fun c69 => ?_)
    · have h := h.1 c69
      refine W.widen (k := 72) (n := 432) (by omega) (by omega) ?_
      exact hB255  r0 x1 x2 x3 x4 x5 x7 μ H locs ls hM hS (lv_sub hl [0, 1, 2, 3, 4, 5, 6] rfl) h
    · have h := h.2 c69
      refine lv_iload S.1 S.2.1 dL_isMessage_223 (lv_at hl 4 rfl) ?_
      refine lv_bipush (v := (nI 110)) S.1 S.2.1 dL_isMessage_225 (by decide) ?_
      refine lv_icmp_ne (tgt := 234) S.1 S.2.1 dL_isMessage_227 (by decide) (fun c70 => ?_) (fun c70 => ?_)
      · have h := h.1 c70
        refine lv_iconst (v := (nI 0)) S.1 S.2.1 dL_isMessage_234 (by decide) ?_
        refine W.widen (k := 70) (n := 420) (by omega) (by omega) ?_
        exact hB235  r0 x1 x2 x3 x4 x5 x7 (nI 0) μ H locs ls hM hS (lv_sub hl [0, 1, 2, 3, 4, 5, 6] rfl) h
      · have h := h.2 c70
        refine lv_iconst (v := (nI 1)) S.1 S.2.1 dL_isMessage_230 (by decide) ?_
        refine lv_goto (tgt := 235) S.1 S.2.1 dL_isMessage_231 (by decide) ?_
        refine W.widen (k := 70) (n := 420) (by omega) (by omega) ?_
        exact hB235  r0 x1 x2 x3 x4 x5 x7 (nI 1) μ H locs ls hM hS (lv_sub hl [0, 1, 2, 3, 4, 5, 6] rfl) h
  have hB210 : ∀ (r0 : Option Nat) (x1 : Int32) (x2 : Int32) (x3 : Int32) (x4 : Int32) (x5 : Int32) (x7 : Int32) (x8 : Int32) (s0 : Int32) (μ : mmT) (H : Heap) (locs : List Loc) (ls : Array Slot), Mm G μ H → va_S (Ah G) s.heap H locs → lv_has ls 14 [(0, va_rf r0), (1, .int x1), (2, .int x2), (3, .int x3), (4, .int x4), (5, .int x5), (7, .int x7), (8, .int x8)] → w_L_isMessage_b210 G Q  r0 x1 x2 x3 x4 x5 x7 x8 s0 μ → W p l e { frames := 9, cells := 86, slots := 516, locals := 239 } s m args below meth c H locs (70) (420) (MQ below (mQ G (pI Q)) args s 86 516 (Ah G)) (F0 m 210 ls [.int s0]) := by
    intro  r0 x1 x2 x3 x4 x5 x7 x8 s0 μ H locs ls hM hS hl h
    unfold w_L_isMessage_b210 at h
    refine lv_iload S.1 S.2.1 dL_isMessage_210 (lv_at hl 7 rfl) ?_
    refine lv_if_lt (tgt := 219) S.1 S.2.1 dL_isMessage_212 (by decide) (fun c68 => ?_) (fun c68 => ?_)
    · have h := h.1 c68
      refine lv_iconst (v := (nI 0)) S.1 S.2.1 dL_isMessage_219 (by decide) ?_
      refine W.widen (k := 70) (n := 420) (by omega) (by omega) ?_
      exact hB220  r0 x1 x2 x3 x4 x5 x7 s0 (nI 0) μ H locs ls hM hS (lv_sub hl [0, 1, 2, 3, 4, 5, 6] rfl) h
    · have h := h.2 c68
      refine lv_iconst (v := (nI 1)) S.1 S.2.1 dL_isMessage_215 (by decide) ?_
      refine lv_goto (tgt := 220) S.1 S.2.1 dL_isMessage_216 (by decide) ?_
      refine W.widen (k := 70) (n := 420) (by omega) (by omega) ?_
      exact hB220  r0 x1 x2 x3 x4 x5 x7 s0 (nI 1) μ H locs ls hM hS (lv_sub hl [0, 1, 2, 3, 4, 5, 6] rfl) h
  have hB195 : ∀ (r0 : Option Nat) (x1 : Int32) (x2 : Int32) (x3 : Int32) (x4 : Int32) (x5 : Int32) (x7 : Int32) (x8 : Int32) (s0 : Int32) (s1 : Int32) (μ : mmT) (H : Heap) (locs : List Loc) (ls : Array Slot), Mm G μ H → va_S (Ah G) s.heap H locs → lv_has ls 14 [(0, va_rf r0), (1, .int x1), (2, .int x2), (3, .int x3), (4, .int x4), (5, .int x5), (7, .int x7), (8, .int x8)] → w_L_isMessage_b195 G Q  r0 x1 x2 x3 x4 x5 x7 x8 s0 s1 μ → W p l e { frames := 9, cells := 86, slots := 516, locals := 239 } s m args below meth c H locs (70) (420) (MQ below (mQ G (pI Q)) args s 86 516 (Ah G)) (F0 m 195 ls [.int s1, .int s0]) := by
    intro  r0 x1 x2 x3 x4 x5 x7 x8 s0 s1 μ H locs ls hM hS hl h
    unfold w_L_isMessage_b195 at h
    refine lv_icmp_ne (tgt := 255) S.1 S.2.1 dL_isMessage_195 (by decide) (fun c66 => ?_) (fun c66 => ?_)
    · have h := h.1 c66
      refine W.widen (k := 72) (n := 432) (by omega) (by omega) ?_
      exact hB255  r0 x1 x2 x3 x4 x5 x7 μ H locs ls hM hS (lv_sub hl [0, 1, 2, 3, 4, 5, 6] rfl) h
    · have h := h.2 c66
      refine lv_iload S.1 S.2.1 dL_isMessage_198 (lv_at hl 4 rfl) ?_
      refine lv_bipush (v := (nI 119)) S.1 S.2.1 dL_isMessage_200 (by decide) ?_
      refine lv_icmp_ne (tgt := 209) S.1 S.2.1 dL_isMessage_202 (by decide) (fun c67 => ?_) (fun c67 => ?_)
      · have h := h.1 c67
        refine lv_iconst (v := (nI 0)) S.1 S.2.1 dL_isMessage_209 (by decide) ?_
        refine W.widen (k := 70) (n := 420) (by omega) (by omega) ?_
        exact hB210  r0 x1 x2 x3 x4 x5 x7 x8 (nI 0) μ H locs ls hM hS (lv_sub hl [0, 1, 2, 3, 4, 5, 6, 7] rfl) h
      · have h := h.2 c67
        refine lv_iconst (v := (nI 1)) S.1 S.2.1 dL_isMessage_205 (by decide) ?_
        refine lv_goto (tgt := 210) S.1 S.2.1 dL_isMessage_206 (by decide) ?_
        refine W.widen (k := 70) (n := 420) (by omega) (by omega) ?_
        exact hB210  r0 x1 x2 x3 x4 x5 x7 x8 (nI 1) μ H locs ls hM hS (lv_sub hl [0, 1, 2, 3, 4, 5, 6, 7] rfl) h
  have hB185 : ∀ (r0 : Option Nat) (x1 : Int32) (x2 : Int32) (x3 : Int32) (x4 : Int32) (x5 : Int32) (x7 : Int32) (x8 : Int32) (s0 : Int32) (μ : mmT) (H : Heap) (locs : List Loc) (ls : Array Slot), Mm G μ H → va_S (Ah G) s.heap H locs → lv_has ls 14 [(0, va_rf r0), (1, .int x1), (2, .int x2), (3, .int x3), (4, .int x4), (5, .int x5), (7, .int x7), (8, .int x8)] → w_L_isMessage_b185 G Q  r0 x1 x2 x3 x4 x5 x7 x8 s0 μ → W p l e { frames := 9, cells := 86, slots := 516, locals := 239 } s m args below meth c H locs (70) (420) (MQ below (mQ G (pI Q)) args s 86 516 (Ah G)) (F0 m 185 ls [.int s0]) := by
    intro  r0 x1 x2 x3 x4 x5 x7 x8 s0 μ H locs ls hM hS hl h
    unfold w_L_isMessage_b185 at h
    refine lv_iload S.1 S.2.1 dL_isMessage_185 (lv_at hl 6 rfl) ?_
    refine lv_if_lt (tgt := 194) S.1 S.2.1 dL_isMessage_187 (by decide) (fun c65 => ?_) (fun c65 => ?_)
    · have h := h.1 c65
      refine lv_iconst (v := (nI 0)) S.1 S.2.1 dL_isMessage_194 (by decide) ?_
      refine W.widen (k := 70) (n := 420) (by omega) (by omega) ?_
      exact hB195  r0 x1 x2 x3 x4 x5 x7 x8 s0 (nI 0) μ H locs ls hM hS (lv_sub hl [0, 1, 2, 3, 4, 5, 6, 7] rfl) h
    · have h := h.2 c65
      refine lv_iconst (v := (nI 1)) S.1 S.2.1 dL_isMessage_190 (by decide) ?_
      refine lv_goto (tgt := 195) S.1 S.2.1 dL_isMessage_191 (by decide) ?_
      refine W.widen (k := 70) (n := 420) (by omega) (by omega) ?_
      exact hB195  r0 x1 x2 x3 x4 x5 x7 x8 s0 (nI 1) μ H locs ls hM hS (lv_sub hl [0, 1, 2, 3, 4, 5, 6, 7] rfl) h
  have hB170 : ∀ (r0 : Option Nat) (x1 : Int32) (x2 : Int32) (x3 : Int32) (x4 : Int32) (x5 : Int32) (x7 : Int32) (x8 : Int32) (s0 : Int32) (s1 : Int32) (μ : mmT) (H : Heap) (locs : List Loc) (ls : Array Slot), Mm G μ H → va_S (Ah G) s.heap H locs → lv_has ls 14 [(0, va_rf r0), (1, .int x1), (2, .int x2), (3, .int x3), (4, .int x4), (5, .int x5), (7, .int x7), (8, .int x8)] → w_L_isMessage_b170 G Q  r0 x1 x2 x3 x4 x5 x7 x8 s0 s1 μ → W p l e { frames := 9, cells := 86, slots := 516, locals := 239 } s m args below meth c H locs (70) (420) (MQ below (mQ G (pI Q)) args s 86 516 (Ah G)) (F0 m 170 ls [.int s1, .int s0]) := by
    intro  r0 x1 x2 x3 x4 x5 x7 x8 s0 s1 μ H locs ls hM hS hl h
    unfold w_L_isMessage_b170 at h
    refine lv_icmp_ne (tgt := 255) S.1 S.2.1 dL_isMessage_170 (by decide) (fun c16 => ?_) (fun c16 => ?_)
    · have h := h.1 c16
      refine W.widen (k := 72) (n := 432) (by omega) (by omega) ?_
      exact hB255  r0 x1 x2 x3 x4 x5 x7 μ H locs ls hM hS (lv_sub hl [0, 1, 2, 3, 4, 5, 6] rfl) h
    · have h := h.2 c16
      refine lv_iload S.1 S.2.1 dL_isMessage_173 (lv_at hl 4 rfl) ?_
      refine lv_bipush (v := (nI 102)) S.1 S.2.1 dL_isMessage_175 (by decide) ?_
      refine lv_icmp_ne (tgt := 184) S.1 S.2.1 dL_isMessage_177 (by decide) (fun c64 => ?_) (fun c64 => ?_)
      · have h := h.1 c64
        refine lv_iconst (v := (nI 0)) S.1 S.2.1 dL_isMessage_184 (by decide) ?_
        refine W.widen (k := 70) (n := 420) (by omega) (by omega) ?_
        exact hB185  r0 x1 x2 x3 x4 x5 x7 x8 (nI 0) μ H locs ls hM hS (lv_sub hl [0, 1, 2, 3, 4, 5, 6, 7] rfl) h
      · have h := h.2 c64
        refine lv_iconst (v := (nI 1)) S.1 S.2.1 dL_isMessage_180 (by decide) ?_
        refine lv_goto (tgt := 185) S.1 S.2.1 dL_isMessage_181 (by decide) ?_
        refine W.widen (k := 70) (n := 420) (by omega) (by omega) ?_
        exact hB185  r0 x1 x2 x3 x4 x5 x7 x8 (nI 1) μ H locs ls hM hS (lv_sub hl [0, 1, 2, 3, 4, 5, 6, 7] rfl) h
  have hB160 : ∀ (r0 : Option Nat) (x1 : Int32) (x2 : Int32) (x3 : Int32) (x4 : Int32) (x5 : Int32) (x6 : Int32) (x7 : Int32) (x8 : Int32) (s0 : Int32) (μ : mmT) (H : Heap) (locs : List Loc) (ls : Array Slot), Mm G μ H → va_S (Ah G) s.heap H locs → lv_has ls 14 [(0, va_rf r0), (1, .int x1), (2, .int x2), (3, .int x3), (4, .int x4), (5, .int x5), (6, .int x6), (7, .int x7), (8, .int x8)] → w_L_isMessage_b160 G Q  r0 x1 x2 x3 x4 x5 x6 x7 x8 s0 μ → W p l e { frames := 9, cells := 86, slots := 516, locals := 239 } s m args below meth c H locs (70) (420) (MQ below (mQ G (pI Q)) args s 86 516 (Ah G)) (F0 m 160 ls [.int s0]) := by
    intro  r0 x1 x2 x3 x4 x5 x6 x7 x8 s0 μ H locs ls hM hS hl h
    unfold w_L_isMessage_b160 at h
    refine lv_iload S.1 S.2.1 dL_isMessage_160 (lv_at hl 6 rfl) ?_
    refine lv_if_lt (tgt := 169) S.1 S.2.1 dL_isMessage_162 (by decide) (fun c15 => ?_) (fun c15 => ?_)
    · have h := h.1 c15
      refine lv_iconst (v := (nI 0)) S.1 S.2.1 dL_isMessage_169 (by decide) ?_
      refine W.widen (k := 70) (n := 420) (by omega) (by omega) ?_
      exact hB170  r0 x1 x2 x3 x4 x5 x7 x8 s0 (nI 0) μ H locs ls hM hS (lv_sub hl [0, 1, 2, 3, 4, 5, 7, 8] rfl) h
    · have h := h.2 c15
      refine lv_iconst (v := (nI 1)) S.1 S.2.1 dL_isMessage_165 (by decide) ?_
      refine lv_goto (tgt := 170) S.1 S.2.1 dL_isMessage_166 (by decide) ?_
      refine W.widen (k := 70) (n := 420) (by omega) (by omega) ?_
      exact hB170  r0 x1 x2 x3 x4 x5 x7 x8 s0 (nI 1) μ H locs ls hM hS (lv_sub hl [0, 1, 2, 3, 4, 5, 7, 8] rfl) h
  have hB140 : ∀ (K114 : Option Nat → Int32 → Int32 → Int32 → Int32 → Int32 → Int32 → Int32 → Int32 → Int32 → Nat → mmT → Prop) (kK114 : ∀ (r0 : Option Nat) (x1 : Int32) (x2 : Int32) (x3 : Int32) (x4 : Int32) (x5 : Int32) (x6 : Int32) (x7 : Int32) (x8 : Int32) (x9 : Int32) (t114 : Nat) (μ : mmT) (H : Heap) (locs : List Loc) (ls : Array Slot), Mm G μ H → va_S (Ah G) s.heap H locs → lv_has ls 14 [(0, va_rf r0), (1, .int x1), (2, .int x2), (3, .int x3), (4, .int x4), (5, .int x5), (6, .int x6), (7, .int x7), (8, .int x8), (9, .int x9)] → K114 r0 x1 x2 x3 x4 x5 x6 x7 x8 x9 t114 μ → W p l e { frames := 9, cells := 86, slots := 516, locals := 239 } s m args below meth c H locs (37 + 2 * t114) (222 + 12 * t114) (MQ below (mQ G (pI Q)) args s 86 516 (Ah G)) (F0 m 114 ls [])) (r0 : Option Nat) (x1 : Int32) (x2 : Int32) (x3 : Int32) (x4 : Int32) (x5 : Int32) (x6 : Int32) (x7 : Int32) (x9 : Int32) (s0 : Int32) (t114 : Nat) (μ : mmT) (H : Heap) (locs : List Loc) (ls : Array Slot), Mm G μ H → va_S (Ah G) s.heap H locs → lv_has ls 14 [(0, va_rf r0), (1, .int x1), (2, .int x2), (3, .int x3), (4, .int x4), (5, .int x5), (6, .int x6), (7, .int x7), (9, .int x9)] → w_L_isMessage_b140 G Q K114 r0 x1 x2 x3 x4 x5 x6 x7 x9 s0 t114 μ → W p l e { frames := 9, cells := 86, slots := 516, locals := 239 } s m args below meth c H locs (39 + 2 * t114) (234 + 12 * t114) (MQ below (mQ G (pI Q)) args s 86 516 (Ah G)) (F0 m 140 ls [.int s0]) := by
    intro K114 kK114 r0 x1 x2 x3 x4 x5 x6 x7 x9 s0 t114 μ H locs ls hM hS hl h
    unfold w_L_isMessage_b140 at h
    obtain ⟨ht114, h⟩ := h
    refine lv_istore (lv' := [(8, .int s0), (0, va_rf r0), (1, .int x1), (2, .int x2), (3, .int x3), (4, .int x4), (5, .int x5), (6, .int x6), (7, .int x7), (9, .int x9)]) S.1 S.2.1 dL_isMessage_140 hl (by decide) rfl (fun ls hl => ?_)
    refine lv_iinc (v := (x9 + nI 1)) (lv' := [(9, .int (x9 + nI 1)), (8, .int s0), (0, va_rf r0), (1, .int x1), (2, .int x2), (3, .int x3), (4, .int x4), (5, .int x5), (6, .int x6), (7, .int x7)]) S.1 S.2.1 dL_isMessage_142 hl (k := 9) rfl rfl (by decide) rfl (fun ls hl => ?_)
    refine lv_goto (tgt := 114) S.1 S.2.1 dL_isMessage_145 (by decide) ?_
    refine W.widen (k := 37 + 2 * (t114 + 1)) (n := 222 + 12 * (t114 + 1)) (by omega) (by omega) ?_
    exact kK114 r0 x1 x2 x3 x4 x5 x6 x7 s0 (x9 + nI 1) (t114 + 1) μ H locs ls hM hS (lv_sub hl [2, 3, 4, 5, 6, 7, 8, 9, 1, 0] rfl) h
  have hB114 : ∀ (n : Nat) (r0 : Option Nat) (x1 : Int32) (x2 : Int32) (x3 : Int32) (x4 : Int32) (x5 : Int32) (x6 : Int32) (x7 : Int32) (x8 : Int32) (x9 : Int32) (t114 : Nat) (μ : mmT) (H : Heap) (locs : List Loc) (ls : Array Slot), Mm G μ H → va_S (Ah G) s.heap H locs → lv_has ls 14 [(0, va_rf r0), (1, .int x1), (2, .int x2), (3, .int x3), (4, .int x4), (5, .int x5), (6, .int x6), (7, .int x7), (8, .int x8), (9, .int x9)] → w_L_isMessage_l114 G Q  n r0 x1 x2 x3 x4 x5 x6 x7 x8 x9 t114 μ → W p l e { frames := 9, cells := 86, slots := 516, locals := 239 } s m args below meth c H locs (37 + 2 * t114) (222 + 12 * t114) (MQ below (mQ G (pI Q)) args s 86 516 (Ah G)) (F0 m 114 ls []) := by
    intro  n
    induction n with
    | zero =>
      intro r0 x1 x2 x3 x4 x5 x6 x7 x8 x9 t114 μ H locs ls hM hS hl h
      exact False.elim h
    | succ n ih =>
      intro r0 x1 x2 x3 x4 x5 x6 x7 x8 x9 t114 μ H locs ls hM hS hl h
      have h : w_L_isMessage_b114 G Q  (w_L_isMessage_l114 G Q  n) r0 x1 x2 x3 x4 x5 x6 x7 x8 x9 t114 μ := h
      unfold w_L_isMessage_b114 at h
      obtain ⟨ht114, h⟩ := h
      refine mz_aload_n (x := r0) S.1 S.2.1 dL_isMessage_114 rfl (lv_at hl 0 rfl) ?_
      refine lv_iload S.1 S.2.1 dL_isMessage_115 (lv_at hl 9 rfl) ?_
      refine mz_SH S hG hM hS (As := [va_rf r0, .int x9]) (rest := []) (c_L_waitingMessage hl0 h) yh_L_waitingMessage tw_1219 tw_1220 ⟨Nat.le_of_ble_eq_true rfl, Nat.le_of_ble_eq_true rfl⟩ ⟨(by show (37 + 2 * t114) + 1 ≤ 86; omega), (by show (222 + 12 * t114) + 6 ≤ 516; omega)⟩ rfl hl.1 rfl (Nat.le_of_ble_eq_true rfl) dL_isMessage_117 (fun v9 μ9 H locs hp hM hS => ?_)
      obtain ⟨u12, rfl, e9, h⟩ := hp
      rw [e9] at hM
      refine W.cs (cells' := 38 + 2 * t114) (slots' := 228 + 12 * t114) (by first | omega | (dsimp only; omega)) (by first | omega | (dsimp only; omega)) ?_
      refine lv_if_lt (tgt := 148) S.1 S.2.1 dL_isMessage_120 (by decide) (fun c13 => ?_) (fun c13 => ?_)
      · have h := h.1 c13
        refine lv_iload S.1 S.2.1 dL_isMessage_148 (lv_at hl 4 rfl) ?_
        refine lv_bipush (v := (nI 100)) S.1 S.2.1 dL_isMessage_150 (by decide) ?_
        refine lv_icmp_ne (tgt := 159) S.1 S.2.1 dL_isMessage_152 (by decide) (fun c14 => ?_) (fun c14 => ?_)
        · have h := h.1 c14
          refine lv_iconst (v := (nI 0)) S.1 S.2.1 dL_isMessage_159 (by decide) ?_
          refine W.widen (k := 70) (n := 420) (by omega) (by omega) ?_
          exact hB160  r0 x1 x2 x3 x4 x5 x6 x7 x8 (nI 0) μ H locs ls hM hS (lv_sub hl [0, 1, 2, 3, 4, 5, 6, 7, 8] rfl) h
        · have h := h.2 c14
          refine lv_iconst (v := (nI 1)) S.1 S.2.1 dL_isMessage_155 (by decide) ?_
          refine lv_goto (tgt := 160) S.1 S.2.1 dL_isMessage_156 (by decide) ?_
          refine W.widen (k := 70) (n := 420) (by omega) (by omega) ?_
          exact hB160  r0 x1 x2 x3 x4 x5 x6 x7 x8 (nI 1) μ H locs ls hM hS (lv_sub hl [0, 1, 2, 3, 4, 5, 6, 7, 8] rfl) h
      · have h := h.2 c13
        refine mz_aload_n (x := r0) S.1 S.2.1 dL_isMessage_123 rfl (lv_at hl 0 rfl) ?_
        refine lv_iload S.1 S.2.1 dL_isMessage_124 (lv_at hl 9 rfl) ?_
        refine mz_SH S hG hM hS (As := [va_rf r0, .int x9]) (rest := []) (c_L_waitingMessage hl0 h) yh_L_waitingMessage tw_1219 tw_1220 ⟨Nat.le_of_ble_eq_true rfl, Nat.le_of_ble_eq_true rfl⟩ ⟨(by show (38 + 2 * t114) + 1 ≤ 86; omega), (by show (228 + 12 * t114) + 6 ≤ 516; omega)⟩ rfl hl.1 rfl (Nat.le_of_ble_eq_true rfl) dL_isMessage_126 (fun v9 μ9 H locs hp hM hS => ?_)
        obtain ⟨u74, rfl, e9, h⟩ := hp
        rw [e9] at hM
        refine W.cs (cells' := 39 + 2 * t114) (slots' := 234 + 12 * t114) (by first | omega | (dsimp only; omega)) (by first | omega | (dsimp only; omega)) ?_
        refine lv_iload_n S.1 S.2.1 dL_isMessage_129 rfl (lv_at hl 2 rfl) ?_
        refine lv_icmp_ne (tgt := 138) S.1 S.2.1 dL_isMessage_130 (by decide) (fun c75 => ?_) (fun c75 => ?_)
        · have h := h.1 c75
          refine lv_iload S.1 S.2.1 dL_isMessage_138 (lv_at hl 8 rfl) ?_
          refine W.widen (k := 39 + 2 * t114) (n := 234 + 12 * t114) (by omega) (by omega) ?_
          exact hB140 (w_L_isMessage_l114 G Q  n) ih r0 x1 x2 x3 x4 x5 x6 x7 x9 x8 t114 μ H locs ls hM hS (lv_sub hl [0, 1, 2, 3, 4, 5, 6, 7, 9] rfl) h
        · have h := h.2 c75
          refine lv_iload S.1 S.2.1 dL_isMessage_133 (lv_at hl 9 rfl) ?_
          refine lv_goto (tgt := 140) S.1 S.2.1 dL_isMessage_135 (by decide) ?_
          refine W.widen (k := 39 + 2 * t114) (n := 234 + 12 * t114) (by omega) (by omega) ?_
          exact hB140 (w_L_isMessage_l114 G Q  n) ih r0 x1 x2 x3 x4 x5 x6 x7 x9 x9 t114 μ H locs ls hM hS (lv_sub hl [0, 1, 2, 3, 4, 5, 6, 7, 9] rfl) h
  have hB100 : ∀ (K74 : Option Nat → Int32 → Int32 → Int32 → Int32 → Int32 → Int32 → Int32 → Int32 → Nat → mmT → Prop) (kK74 : ∀ (r0 : Option Nat) (x1 : Int32) (x2 : Int32) (x3 : Int32) (x4 : Int32) (x5 : Int32) (x6 : Int32) (x7 : Int32) (x8 : Int32) (t74 : Nat) (μ : mmT) (H : Heap) (locs : List Loc) (ls : Array Slot), Mm G μ H → va_S (Ah G) s.heap H locs → lv_has ls 14 [(0, va_rf r0), (1, .int x1), (2, .int x2), (3, .int x3), (4, .int x4), (5, .int x5), (6, .int x6), (7, .int x7), (8, .int x8)] → K74 r0 x1 x2 x3 x4 x5 x6 x7 x8 t74 μ → W p l e { frames := 9, cells := 86, slots := 516, locals := 239 } s m args below meth c H locs (29 + 2 * t74) (174 + 12 * t74) (MQ below (mQ G (pI Q)) args s 86 516 (Ah G)) (F0 m 74 ls [])) (r0 : Option Nat) (x1 : Int32) (x2 : Int32) (x3 : Int32) (x4 : Int32) (x5 : Int32) (x6 : Int32) (x8 : Int32) (s0 : Int32) (t74 : Nat) (μ : mmT) (H : Heap) (locs : List Loc) (ls : Array Slot), Mm G μ H → va_S (Ah G) s.heap H locs → lv_has ls 14 [(0, va_rf r0), (1, .int x1), (2, .int x2), (3, .int x3), (4, .int x4), (5, .int x5), (6, .int x6), (8, .int x8)] → w_L_isMessage_b100 G Q K74 r0 x1 x2 x3 x4 x5 x6 x8 s0 t74 μ → W p l e { frames := 9, cells := 86, slots := 516, locals := 239 } s m args below meth c H locs (31 + 2 * t74) (186 + 12 * t74) (MQ below (mQ G (pI Q)) args s 86 516 (Ah G)) (F0 m 100 ls [.int s0]) := by
    intro K74 kK74 r0 x1 x2 x3 x4 x5 x6 x8 s0 t74 μ H locs ls hM hS hl h
    unfold w_L_isMessage_b100 at h
    obtain ⟨ht74, h⟩ := h
    refine lv_istore (lv' := [(7, .int s0), (0, va_rf r0), (1, .int x1), (2, .int x2), (3, .int x3), (4, .int x4), (5, .int x5), (6, .int x6), (8, .int x8)]) S.1 S.2.1 dL_isMessage_100 hl (by decide) rfl (fun ls hl => ?_)
    refine lv_iinc (v := (x8 + nI 1)) (lv' := [(8, .int (x8 + nI 1)), (7, .int s0), (0, va_rf r0), (1, .int x1), (2, .int x2), (3, .int x3), (4, .int x4), (5, .int x5), (6, .int x6)]) S.1 S.2.1 dL_isMessage_102 hl (k := 8) rfl rfl (by decide) rfl (fun ls hl => ?_)
    refine lv_goto (tgt := 74) S.1 S.2.1 dL_isMessage_105 (by decide) ?_
    refine W.widen (k := 29 + 2 * (t74 + 1)) (n := 174 + 12 * (t74 + 1)) (by omega) (by omega) ?_
    exact kK74 r0 x1 x2 x3 x4 x5 x6 s0 (x8 + nI 1) (t74 + 1) μ H locs ls hM hS (lv_sub hl [2, 3, 4, 5, 6, 7, 8, 1, 0] rfl) h
  have hB74 : ∀ (n : Nat) (r0 : Option Nat) (x1 : Int32) (x2 : Int32) (x3 : Int32) (x4 : Int32) (x5 : Int32) (x6 : Int32) (x7 : Int32) (x8 : Int32) (t74 : Nat) (μ : mmT) (H : Heap) (locs : List Loc) (ls : Array Slot), Mm G μ H → va_S (Ah G) s.heap H locs → lv_has ls 14 [(0, va_rf r0), (1, .int x1), (2, .int x2), (3, .int x3), (4, .int x4), (5, .int x5), (6, .int x6), (7, .int x7), (8, .int x8)] → w_L_isMessage_l74 G Q  n r0 x1 x2 x3 x4 x5 x6 x7 x8 t74 μ → W p l e { frames := 9, cells := 86, slots := 516, locals := 239 } s m args below meth c H locs (29 + 2 * t74) (174 + 12 * t74) (MQ below (mQ G (pI Q)) args s 86 516 (Ah G)) (F0 m 74 ls []) := by
    intro  n
    induction n with
    | zero =>
      intro r0 x1 x2 x3 x4 x5 x6 x7 x8 t74 μ H locs ls hM hS hl h
      exact False.elim h
    | succ n ih =>
      intro r0 x1 x2 x3 x4 x5 x6 x7 x8 t74 μ H locs ls hM hS hl h
      have h : w_L_isMessage_b74 G Q  (w_L_isMessage_l74 G Q  n) r0 x1 x2 x3 x4 x5 x6 x7 x8 t74 μ := h
      unfold w_L_isMessage_b74 at h
      obtain ⟨ht74, h⟩ := h
      refine lv_iload S.1 S.2.1 dL_isMessage_74 (lv_at hl 8 rfl) ?_
      refine mz_aload_n (x := r0) S.1 S.2.1 dL_isMessage_76 rfl (lv_at hl 0 rfl) ?_
      obtain ⟨a7, e8, h⟩ := h
      refine mz_o0 e8 ?_
      obtain ⟨k9, h⟩ := h
      refine mz_V S hG hM hS cf_9 k9 (As := []) (rest := [.int x8]) (c_X10_crowCount h) yf_X10_crowCount tw_1163 tw_1164 tw_1165 ⟨Nat.le_of_ble_eq_true rfl, Nat.le_of_ble_eq_true rfl⟩ ⟨(by show (29 + 2 * t74) + 0 ≤ 86; omega), (by show (174 + 12 * t74) + 0 ≤ 516; omega)⟩ rfl hl.1 rfl (Nat.le_of_ble_eq_true rfl) dL_isMessage_77 (fun v9 μ9 H locs hp hM hS => ?_)
      obtain ⟨u10, rfl, e9, h⟩ := hp
      rw [e9] at hM
      refine W.cs (cells' := 29 + 2 * t74) (slots' := 174 + 12 * t74) (by first | omega | (dsimp only; omega)) (by first | omega | (dsimp only; omega)) ?_
      refine lv_icmp_ge (tgt := 108) S.1 S.2.1 dL_isMessage_80 (by decide) (fun c11 => ?_) (fun c11 => ?_)
      · have h := h.1 c11
        refine lv_iconst (v := (-1)) S.1 S.2.1 dL_isMessage_108 (by decide) ?_
        refine lv_istore (lv' := [(8, .int (-1)), (0, va_rf r0), (1, .int x1), (2, .int x2), (3, .int x3), (4, .int x4), (5, .int x5), (6, .int x6), (7, .int x7)]) S.1 S.2.1 dL_isMessage_109 hl (by decide) rfl (fun ls hl => ?_)
        refine lv_iconst (v := (nI 0)) S.1 S.2.1 dL_isMessage_111 (by decide) ?_
        refine lv_istore (lv' := [(9, .int (nI 0)), (8, .int (-1)), (0, va_rf r0), (1, .int x1), (2, .int x2), (3, .int x3), (4, .int x4), (5, .int x5), (6, .int x6), (7, .int x7)]) S.1 S.2.1 dL_isMessage_112 hl (by decide) rfl (fun ls hl => ?_)
        obtain ⟨n9, h⟩ := h
        refine W.widen (k := 37 + 2 * 0) (n := 222 + 12 * 0) (by omega) (by omega) ?_
        exact hB114  n9 r0 x1 x2 x3 x4 x5 x6 x7 (-1) (nI 0) 0 μ H locs ls hM hS (lv_sub hl [2, 3, 4, 5, 6, 7, 8, 9, 1, 0] rfl) h
      · have h := h.2 c11
        refine mz_aload_n (x := r0) S.1 S.2.1 dL_isMessage_83 rfl (lv_at hl 0 rfl) ?_
        refine lv_iload S.1 S.2.1 dL_isMessage_84 (lv_at hl 8 rfl) ?_
        refine mz_SH S hG hM hS (As := [va_rf r0, .int x8]) (rest := []) (c_L_carriedMessage hl0 h) yh_L_carriedMessage tw_1167 tw_1168 ⟨Nat.le_of_ble_eq_true rfl, Nat.le_of_ble_eq_true rfl⟩ ⟨(by show (29 + 2 * t74) + 2 ≤ 86; omega), (by show (174 + 12 * t74) + 12 ≤ 516; omega)⟩ rfl hl.1 rfl (Nat.le_of_ble_eq_true rfl) dL_isMessage_86 (fun v9 μ9 H locs hp hM hS => ?_)
        obtain ⟨u76, rfl, e9, h⟩ := hp
        rw [e9] at hM
        refine W.cs (cells' := 31 + 2 * t74) (slots' := 186 + 12 * t74) (by first | omega | (dsimp only; omega)) (by first | omega | (dsimp only; omega)) ?_
        refine lv_iload_n S.1 S.2.1 dL_isMessage_89 rfl (lv_at hl 2 rfl) ?_
        refine lv_icmp_ne (tgt := 98) S.1 S.2.1 dL_isMessage_90 (by decide) (fun c77 => ?_) (fun c77 => ?_)
        · have h := h.1 c77
          refine lv_iload S.1 S.2.1 dL_isMessage_98 (lv_at hl 7 rfl) ?_
          refine W.widen (k := 31 + 2 * t74) (n := 186 + 12 * t74) (by omega) (by omega) ?_
          exact hB100 (w_L_isMessage_l74 G Q  n) ih r0 x1 x2 x3 x4 x5 x6 x8 x7 t74 μ H locs ls hM hS (lv_sub hl [0, 1, 2, 3, 4, 5, 6, 8] rfl) h
        · have h := h.2 c77
          refine lv_iload S.1 S.2.1 dL_isMessage_93 (lv_at hl 8 rfl) ?_
          refine lv_goto (tgt := 100) S.1 S.2.1 dL_isMessage_95 (by decide) ?_
          refine W.widen (k := 31 + 2 * t74) (n := 186 + 12 * t74) (by omega) (by omega) ?_
          exact hB100 (w_L_isMessage_l74 G Q  n) ih r0 x1 x2 x3 x4 x5 x6 x8 x8 t74 μ H locs ls hM hS (lv_sub hl [0, 1, 2, 3, 4, 5, 6, 8] rfl) h
  have hB63 : ∀ (K35 : Option Nat → Int32 → Int32 → Int32 → Int32 → Int32 → Int32 → Int32 → Int32 → Nat → mmT → Prop) (kK35 : ∀ (r0 : Option Nat) (x1 : Int32) (x2 : Int32) (x3 : Int32) (x4 : Int32) (x5 : Int32) (x6 : Int32) (x7 : Int32) (x8 : Int32) (t35 : Nat) (μ : mmT) (H : Heap) (locs : List Loc) (ls : Array Slot), Mm G μ H → va_S (Ah G) s.heap H locs → lv_has ls 14 [(0, va_rf r0), (1, .int x1), (2, .int x2), (3, .int x3), (4, .int x4), (5, .int x5), (6, .int x6), (7, .int x7), (8, .int x8)] → K35 r0 x1 x2 x3 x4 x5 x6 x7 x8 t35 μ → W p l e { frames := 9, cells := 86, slots := 516, locals := 239 } s m args below meth c H locs (4 + 3 * t35) (24 + 18 * t35) (MQ below (mQ G (pI Q)) args s 86 516 (Ah G)) (F0 m 35 ls [])) (r0 : Option Nat) (x1 : Int32) (x2 : Int32) (x3 : Int32) (x4 : Int32) (x5 : Int32) (x7 : Int32) (x8 : Int32) (s0 : Int32) (t35 : Nat) (μ : mmT) (H : Heap) (locs : List Loc) (ls : Array Slot), Mm G μ H → va_S (Ah G) s.heap H locs → lv_has ls 14 [(0, va_rf r0), (1, .int x1), (2, .int x2), (3, .int x3), (4, .int x4), (5, .int x5), (7, .int x7), (8, .int x8)] → w_L_isMessage_b63 G Q K35 r0 x1 x2 x3 x4 x5 x7 x8 s0 t35 μ → W p l e { frames := 9, cells := 86, slots := 516, locals := 239 } s m args below meth c H locs (7 + 3 * t35) (42 + 18 * t35) (MQ below (mQ G (pI Q)) args s 86 516 (Ah G)) (F0 m 63 ls [.int s0]) := by
    intro K35 kK35 r0 x1 x2 x3 x4 x5 x7 x8 s0 t35 μ H locs ls hM hS hl h
    unfold w_L_isMessage_b63 at h
    obtain ⟨ht35, h⟩ := h
    refine lv_istore (lv' := [(6, .int s0), (0, va_rf r0), (1, .int x1), (2, .int x2), (3, .int x3), (4, .int x4), (5, .int x5), (7, .int x7), (8, .int x8)]) S.1 S.2.1 dL_isMessage_63 hl (by decide) rfl (fun ls hl => ?_)
    refine lv_iinc (v := (x8 + nI 1)) (lv' := [(8, .int (x8 + nI 1)), (6, .int s0), (0, va_rf r0), (1, .int x1), (2, .int x2), (3, .int x3), (4, .int x4), (5, .int x5), (7, .int x7)]) S.1 S.2.1 dL_isMessage_65 hl (k := 8) rfl rfl (by decide) rfl (fun ls hl => ?_)
    refine lv_goto (tgt := 35) S.1 S.2.1 dL_isMessage_68 (by decide) ?_
    refine W.widen (k := 4 + 3 * (t35 + 1)) (n := 24 + 18 * (t35 + 1)) (by omega) (by omega) ?_
    exact kK35 r0 x1 x2 x3 x4 x5 s0 x7 (x8 + nI 1) (t35 + 1) μ H locs ls hM hS (lv_sub hl [2, 3, 4, 5, 6, 7, 1, 8, 0] rfl) h
  have hB35 : ∀ (n : Nat) (r0 : Option Nat) (x1 : Int32) (x2 : Int32) (x3 : Int32) (x4 : Int32) (x5 : Int32) (x6 : Int32) (x7 : Int32) (x8 : Int32) (t35 : Nat) (μ : mmT) (H : Heap) (locs : List Loc) (ls : Array Slot), Mm G μ H → va_S (Ah G) s.heap H locs → lv_has ls 14 [(0, va_rf r0), (1, .int x1), (2, .int x2), (3, .int x3), (4, .int x4), (5, .int x5), (6, .int x6), (7, .int x7), (8, .int x8)] → w_L_isMessage_l35 G Q  n r0 x1 x2 x3 x4 x5 x6 x7 x8 t35 μ → W p l e { frames := 9, cells := 86, slots := 516, locals := 239 } s m args below meth c H locs (4 + 3 * t35) (24 + 18 * t35) (MQ below (mQ G (pI Q)) args s 86 516 (Ah G)) (F0 m 35 ls []) := by
    intro  n
    induction n with
    | zero =>
      intro r0 x1 x2 x3 x4 x5 x6 x7 x8 t35 μ H locs ls hM hS hl h
      exact False.elim h
    | succ n ih =>
      intro r0 x1 x2 x3 x4 x5 x6 x7 x8 t35 μ H locs ls hM hS hl h
      have h : w_L_isMessage_b35 G Q  (w_L_isMessage_l35 G Q  n) r0 x1 x2 x3 x4 x5 x6 x7 x8 t35 μ := h
      unfold w_L_isMessage_b35 at h
      obtain ⟨ht35, h⟩ := h
      refine lv_iload S.1 S.2.1 dL_isMessage_35 (lv_at hl 8 rfl) ?_
      refine mz_aload_n (x := r0) S.1 S.2.1 dL_isMessage_37 rfl (lv_at hl 0 rfl) ?_
      refine lv_iload_n S.1 S.2.1 dL_isMessage_38 rfl (lv_at hl 3 rfl) ?_
      refine mz_SH S hG hM hS (As := [va_rf r0, .int x3]) (rest := [.int x8]) (c_L_inboxSize hl0 h) yh_L_inboxSize tw_1149 tw_1150 ⟨Nat.le_of_ble_eq_true rfl, Nat.le_of_ble_eq_true rfl⟩ ⟨(by show (4 + 3 * t35) + 1 ≤ 86; omega), (by show (24 + 18 * t35) + 6 ≤ 516; omega)⟩ rfl hl.1 rfl (Nat.le_of_ble_eq_true rfl) dL_isMessage_39 (fun v9 μ9 H locs hp hM hS => ?_)
      obtain ⟨u5, rfl, e9, h⟩ := hp
      rw [e9] at hM
      refine W.cs (cells' := 5 + 3 * t35) (slots' := 30 + 18 * t35) (by first | omega | (dsimp only; omega)) (by first | omega | (dsimp only; omega)) ?_
      refine lv_icmp_ge (tgt := 71) S.1 S.2.1 dL_isMessage_42 (by decide) (fun c6 => ?_) (fun c6 => ?_)
      · have h := h.1 c6
        refine lv_iconst (v := (nI 0)) S.1 S.2.1 dL_isMessage_71 (by decide) ?_
        refine lv_istore (lv' := [(8, .int (nI 0)), (0, va_rf r0), (1, .int x1), (2, .int x2), (3, .int x3), (4, .int x4), (5, .int x5), (6, .int x6), (7, .int x7)]) S.1 S.2.1 dL_isMessage_72 hl (by decide) rfl (fun ls hl => ?_)
        obtain ⟨n9, h⟩ := h
        refine W.widen (k := 29 + 2 * 0) (n := 174 + 12 * 0) (by omega) (by omega) ?_
        exact hB74  n9 r0 x1 x2 x3 x4 x5 x6 x7 (nI 0) 0 μ H locs ls hM hS (lv_sub hl [1, 2, 3, 4, 5, 6, 7, 8, 0] rfl) h
      · have h := h.2 c6
        refine mz_aload_n (x := r0) S.1 S.2.1 dL_isMessage_45 rfl (lv_at hl 0 rfl) ?_
        refine lv_iload_n S.1 S.2.1 dL_isMessage_46 rfl (lv_at hl 3 rfl) ?_
        refine lv_iload S.1 S.2.1 dL_isMessage_47 (lv_at hl 8 rfl) ?_
        refine mz_SH S hG hM hS (As := [va_rf r0, .int x3, .int x8]) (rest := []) (c_L_inboxMessage hl0 h) yh_L_inboxMessage tw_1156 tw_1157 ⟨Nat.le_of_ble_eq_true rfl, Nat.le_of_ble_eq_true rfl⟩ ⟨(by show (5 + 3 * t35) + 2 ≤ 86; omega), (by show (30 + 18 * t35) + 12 ≤ 516; omega)⟩ rfl hl.1 rfl (Nat.le_of_ble_eq_true rfl) dL_isMessage_49 (fun v9 μ9 H locs hp hM hS => ?_)
        obtain ⟨u78, rfl, e9, h⟩ := hp
        rw [e9] at hM
        refine W.cs (cells' := 7 + 3 * t35) (slots' := 42 + 18 * t35) (by first | omega | (dsimp only; omega)) (by first | omega | (dsimp only; omega)) ?_
        refine lv_iload_n S.1 S.2.1 dL_isMessage_52 rfl (lv_at hl 2 rfl) ?_
        refine lv_icmp_ne (tgt := 61) S.1 S.2.1 dL_isMessage_53 (by decide) (fun c79 => ?_) (fun c79 => ?_)
        · have h := h.1 c79
          refine lv_iload S.1 S.2.1 dL_isMessage_61 (lv_at hl 6 rfl) ?_
          refine W.widen (k := 7 + 3 * t35) (n := 42 + 18 * t35) (by omega) (by omega) ?_
          exact hB63 (w_L_isMessage_l35 G Q  n) ih r0 x1 x2 x3 x4 x5 x7 x8 x6 t35 μ H locs ls hM hS (lv_sub hl [0, 1, 2, 3, 4, 5, 7, 8] rfl) h
        · have h := h.2 c79
          refine lv_iload S.1 S.2.1 dL_isMessage_56 (lv_at hl 8 rfl) ?_
          refine lv_goto (tgt := 63) S.1 S.2.1 dL_isMessage_58 (by decide) ?_
          refine W.widen (k := 7 + 3 * t35) (n := 42 + 18 * t35) (by omega) (by omega) ?_
          exact hB63 (w_L_isMessage_l35 G Q  n) ih r0 x1 x2 x3 x4 x5 x7 x8 x8 t35 μ H locs ls hM hS (lv_sub hl [0, 1, 2, 3, 4, 5, 7, 8] rfl) h
  intro H locs ls hM hS hl
  have hl : lv_has ls 14 [(0, va_rf r0), (1, .int x1)] := by simpa [lv_args, mz_cat, mz_cr, mz_ci, mz_cl, mz_cf, mz_cd, mz_cn] using hl
  unfold w_L_isMessage at h
  refine mz_aload_n (x := r0) S.1 S.2.1 dL_isMessage_0 rfl (lv_at hl 0 rfl) ?_
  refine lv_iload_n S.1 S.2.1 dL_isMessage_1 rfl (lv_at hl 1 rfl) ?_
  refine mz_SH S hG hM hS (As := [va_rf r0, .int x1]) (rest := []) (c_L_messageAt hl0 h) yh_L_messageAt tw_405 tw_406 ⟨Nat.le_of_ble_eq_true rfl, Nat.le_of_ble_eq_true rfl⟩ ⟨(Nat.le_of_ble_eq_true rfl), (Nat.le_of_ble_eq_true rfl)⟩ rfl hl.1 rfl (Nat.le_of_ble_eq_true rfl) dL_isMessage_2 (fun v9 μ9 H locs hp hM hS => ?_)
  obtain ⟨u1, rfl, e9, h⟩ := hp
  rw [e9] at hM
  refine W.cs (cells' := 1) (slots' := 6) rfl rfl ?_
  refine lv_istore_n (lv' := [(2, .int u1), (0, va_rf r0), (1, .int x1)]) S.1 S.2.1 dL_isMessage_5 rfl hl (by decide) rfl (fun ls hl => ?_)
  refine mz_aload_n (x := r0) S.1 S.2.1 dL_isMessage_6 rfl (lv_at hl 1 rfl) ?_
  refine lv_iload_n S.1 S.2.1 dL_isMessage_7 rfl (lv_at hl 0 rfl) ?_
  refine mz_SH S hG hM hS (As := [va_rf r0, .int u1]) (rest := []) (c_L_nestOf hl0 h) yh_L_nestOf tw_1191 tw_1192 ⟨Nat.le_of_ble_eq_true rfl, Nat.le_of_ble_eq_true rfl⟩ ⟨(Nat.le_of_ble_eq_true rfl), (Nat.le_of_ble_eq_true rfl)⟩ rfl hl.1 rfl (Nat.le_of_ble_eq_true rfl) dL_isMessage_8 (fun v9 μ9 H locs hp hM hS => ?_)
  obtain ⟨u2, rfl, e9, h⟩ := hp
  rw [e9] at hM
  refine W.cs (cells' := 2) (slots' := 12) rfl rfl ?_
  refine lv_istore_n (lv' := [(3, .int u2), (2, .int u1), (0, va_rf r0), (1, .int x1)]) S.1 S.2.1 dL_isMessage_11 rfl hl (by decide) rfl (fun ls hl => ?_)
  refine mz_aload_n (x := r0) S.1 S.2.1 dL_isMessage_12 rfl (lv_at hl 2 rfl) ?_
  refine lv_iload_n S.1 S.2.1 dL_isMessage_13 rfl (lv_at hl 1 rfl) ?_
  refine mz_SH S hG hM hS (As := [va_rf r0, .int u1]) (rest := []) (c_L_status hl0 h) yh_L_status tw_483 tw_484 ⟨Nat.le_of_ble_eq_true rfl, Nat.le_of_ble_eq_true rfl⟩ ⟨(Nat.le_of_ble_eq_true rfl), (Nat.le_of_ble_eq_true rfl)⟩ rfl hl.1 rfl (Nat.le_of_ble_eq_true rfl) dL_isMessage_14 (fun v9 μ9 H locs hp hM hS => ?_)
  obtain ⟨u3, rfl, e9, h⟩ := hp
  rw [e9] at hM
  refine W.cs (cells' := 3) (slots' := 18) rfl rfl ?_
  refine lv_istore (lv' := [(4, .int u3), (3, .int u2), (2, .int u1), (0, va_rf r0), (1, .int x1)]) S.1 S.2.1 dL_isMessage_17 hl (by decide) rfl (fun ls hl => ?_)
  refine mz_aload_n (x := r0) S.1 S.2.1 dL_isMessage_19 rfl (lv_at hl 3 rfl) ?_
  refine lv_iload_n S.1 S.2.1 dL_isMessage_20 rfl (lv_at hl 2 rfl) ?_
  refine mz_SH S hG hM hS (As := [va_rf r0, .int u1]) (rest := []) (c_L_attempts hl0 h) yh_L_attempts tw_1205 tw_1206 ⟨Nat.le_of_ble_eq_true rfl, Nat.le_of_ble_eq_true rfl⟩ ⟨(Nat.le_of_ble_eq_true rfl), (Nat.le_of_ble_eq_true rfl)⟩ rfl hl.1 rfl (Nat.le_of_ble_eq_true rfl) dL_isMessage_21 (fun v9 μ9 H locs hp hM hS => ?_)
  obtain ⟨u4, rfl, e9, h⟩ := hp
  rw [e9] at hM
  refine W.cs (cells' := 4) (slots' := 24) rfl rfl ?_
  refine lv_istore (lv' := [(5, .int u4), (4, .int u3), (3, .int u2), (2, .int u1), (0, va_rf r0), (1, .int x1)]) S.1 S.2.1 dL_isMessage_24 hl (by decide) rfl (fun ls hl => ?_)
  refine lv_iconst (v := (-1)) S.1 S.2.1 dL_isMessage_26 (by decide) ?_
  refine lv_istore (lv' := [(6, .int (-1)), (5, .int u4), (4, .int u3), (3, .int u2), (2, .int u1), (0, va_rf r0), (1, .int x1)]) S.1 S.2.1 dL_isMessage_27 hl (by decide) rfl (fun ls hl => ?_)
  refine lv_iconst (v := (-1)) S.1 S.2.1 dL_isMessage_29 (by decide) ?_
  refine lv_istore (lv' := [(7, .int (-1)), (6, .int (-1)), (5, .int u4), (4, .int u3), (3, .int u2), (2, .int u1), (0, va_rf r0), (1, .int x1)]) S.1 S.2.1 dL_isMessage_30 hl (by decide) rfl (fun ls hl => ?_)
  refine lv_iconst (v := (nI 0)) S.1 S.2.1 dL_isMessage_32 (by decide) ?_
  refine lv_istore (lv' := [(8, .int (nI 0)), (7, .int (-1)), (6, .int (-1)), (5, .int u4), (4, .int u3), (3, .int u2), (2, .int u1), (0, va_rf r0), (1, .int x1)]) S.1 S.2.1 dL_isMessage_33 hl (by decide) rfl (fun ls hl => ?_)
  obtain ⟨n9, h⟩ := h
  refine W.widen (k := 4 + 3 * 0) (n := 24 + 18 * 0) (by omega) (by omega) ?_
  exact hB35  n9 r0 x1 u1 u2 u3 u4 (-1) (-1) (nI 0) 0 μ H locs ls hM hS (lv_sub hl [7, 8, 6, 5, 4, 3, 2, 1, 0] rfl) h

set_option maxRecDepth 100000 in
set_option maxHeartbeats 4000000 in
theorem c_X1_init {l : Launch} {G : mgT} {μ : mmT} {z : Nat} {o : Nat} {Q : mmT → Nat → Prop} (h : w_X1_init G μ z o Q) : MZ G l yX1_init cX1_init 1 { frames := 1, cells := 0, slots := 0, locals := 20 } [.ref o] μ z Q := by
  refine mz_MZ (by decide +kernel) (Nat.le_of_ble_eq_true rfl) (fun p e s m args below meth c S hG hr hlk hnm => ?_)
  intro H locs ls hM hS hg hz hl
  have hl : lv_has ls 1 [(0, .ref o)] := hl
  unfold w_X1_init at h
  refine lv_aload_n S.1 S.2.1 dX1_init_0 rfl (lv_at hl 0 rfl) ?_
  refine W.objInit S.1 S.2.1 S.2.2.2.1 (S.2.2.2.2 _ tw_259) (S.2.2.2.2 _ tw_42) (S.2.2.2.2 _ tw_43) rfl (by rw [S.2.2.1]; exact hl.1) rfl dX1_init_1 (Nat.le_of_ble_eq_true rfl) (Nat.le_of_ble_eq_true rfl) ?_
  refine W.eq (g2 := F0 m 4 ls []) rfl ?_
  refine lv_aload_n S.1 S.2.1 dX1_init_4 rfl (lv_at hl 0 rfl) ?_
  refine va_gets S.1 S.2.1 (hG.enz 7 (by decide)) hS S.2.2.2.1 (S.2.2.2.2 _ tw_260) (fun _ q => q) dX1_init_5 ?_
  obtain ⟨k1, h⟩ := h
  refine mz_putr (x := (some (gE G 7))) S hG hM hS cf_1 fd_32 tw_262 dX1_init_8 k1 rfl rfl (fun H locs hM hS hz9 => ?_)
  have hz := hz9.trans hz
  refine lv_aload_n S.1 S.2.1 dX1_init_11 rfl (lv_at hl 0 rfl) ?_
  refine lv_iconst (v := (nI 0)) S.1 S.2.1 dX1_init_12 (by decide) ?_
  obtain ⟨k2, h⟩ := h
  refine mz_puti S hG hM hS cf_1 fd_33 tw_265 dX1_init_13 k2 rfl rfl (fun H locs hM hS hz9 => ?_)
  have hz := hz9.trans hz
  refine lv_aload_n S.1 S.2.1 dX1_init_16 rfl (lv_at hl 0 rfl) ?_
  refine lv_iconst (v := (nI 0)) S.1 S.2.1 dX1_init_17 (by decide) ?_
  obtain ⟨k3, h⟩ := h
  refine mz_puti S hG hM hS cf_1 fd_34 tw_268 dX1_init_18 k3 rfl rfl (fun H locs hM hS hz9 => ?_)
  have hz := hz9.trans hz
  exact mz_zret S hr hlk hM hS hz hg (Nat.le_of_ble_eq_true rfl) (Nat.le_of_ble_eq_true rfl) dX1_init_21 h
set_option maxRecDepth 100000 in
set_option maxHeartbeats 4000000 in
theorem c_X2_init {l : Launch} {G : mgT} {μ : mmT} {z : Nat} {o : Nat} {Q : mmT → Nat → Prop} (h : w_X2_init G μ z o Q) : MZ G l yX2_init cX2_init 1 { frames := 1, cells := 0, slots := 0, locals := 20 } [.ref o] μ z Q := by
  refine mz_MZ (by decide +kernel) (Nat.le_of_ble_eq_true rfl) (fun p e s m args below meth c S hG hr hlk hnm => ?_)
  intro H locs ls hM hS hg hz hl
  have hl : lv_has ls 1 [(0, .ref o)] := hl
  unfold w_X2_init at h
  refine lv_aload_n S.1 S.2.1 dX2_init_0 rfl (lv_at hl 0 rfl) ?_
  refine W.objInit S.1 S.2.1 S.2.2.2.1 (S.2.2.2.2 _ tw_139) (S.2.2.2.2 _ tw_42) (S.2.2.2.2 _ tw_43) rfl (by rw [S.2.2.1]; exact hl.1) rfl dX2_init_1 (Nat.le_of_ble_eq_true rfl) (Nat.le_of_ble_eq_true rfl) ?_
  refine W.eq (g2 := F0 m 4 ls []) rfl ?_
  refine lv_aload_n S.1 S.2.1 dX2_init_4 rfl (lv_at hl 0 rfl) ?_
  refine lv_iconst (v := (nI 0)) S.1 S.2.1 dX2_init_5 (by decide) ?_
  obtain ⟨k1, h⟩ := h
  refine mz_puti S hG hM hS cf_2 fd_64 tw_140 dX2_init_6 k1 rfl rfl (fun H locs hM hS hz9 => ?_)
  have hz := hz9.trans hz
  refine lv_aload_n S.1 S.2.1 dX2_init_9 rfl (lv_at hl 0 rfl) ?_
  refine lv_iconst (v := (nI 0)) S.1 S.2.1 dX2_init_10 (by decide) ?_
  obtain ⟨k2, h⟩ := h
  refine mz_puti S hG hM hS cf_2 fd_65 tw_143 dX2_init_11 k2 rfl rfl (fun H locs hM hS hz9 => ?_)
  have hz := hz9.trans hz
  refine lv_aload_n S.1 S.2.1 dX2_init_14 rfl (lv_at hl 0 rfl) ?_
  refine lv_iconst (v := (nI 0)) S.1 S.2.1 dX2_init_15 (by decide) ?_
  obtain ⟨k3, h⟩ := h
  refine mz_puti S hG hM hS cf_2 fd_66 tw_146 dX2_init_16 k3 rfl rfl (fun H locs hM hS hz9 => ?_)
  have hz := hz9.trans hz
  exact mz_zret S hr hlk hM hS hz hg (Nat.le_of_ble_eq_true rfl) (Nat.le_of_ble_eq_true rfl) dX2_init_19 h
set_option maxRecDepth 100000 in
set_option maxHeartbeats 4000000 in
theorem c_X2_copyFrom {l : Launch} {G : mgT} {μ : mmT} {o : Nat} {r1 : Option Nat} {Q : mmT → Prop} (h : w_X2_copyFrom G μ o r1 Q) : MC G l yX2_copyFrom cX2_copyFrom 2 none { frames := 0, cells := 0, slots := 0, locals := 0 } [.ref o, va_rf r1] μ (pV Q) := by
  refine mz_MC (by decide +kernel) (by simp [lg_sl, mz_cat, mz_cr, mz_ci, mz_cl, mz_cf, mz_cd, mz_cn]) (fun p e s m args below meth c S hG hr hlk hnm => ?_)
  intro H locs ls hM hS hl
  have hl : lv_has ls 2 [(0, .ref o), (1, va_rf r1)] := by simpa [lv_args, mz_cat, mz_cr, mz_ci, mz_cl, mz_cf, mz_cd, mz_cn] using hl
  unfold w_X2_copyFrom at h
  refine lv_aload_n S.1 S.2.1 dX2_copyFrom_0 rfl (lv_at hl 0 rfl) ?_
  refine mz_aload_n (x := r1) S.1 S.2.1 dX2_copyFrom_1 rfl (lv_at hl 1 rfl) ?_
  obtain ⟨a1, e2, h⟩ := h
  refine mz_o0 e2 ?_
  obtain ⟨k3, h⟩ := h
  refine mz_geti S hG hM cf_2 fd_64 tw_140 dX2_copyFrom_2 k3 ?_
  obtain ⟨k4, h⟩ := h
  obtain ⟨f5, h⟩ := h
  refine mz_puti S hG hM hS cf_2 fd_64 tw_140 dX2_copyFrom_5 k4 (mz_nZ f5) (mz_fZ f5) (fun H locs hM hS hz9 => ?_)
  refine lv_aload_n S.1 S.2.1 dX2_copyFrom_8 rfl (lv_at hl 0 rfl) ?_
  refine mz_aload_n (x := r1) S.1 S.2.1 dX2_copyFrom_9 rfl (lv_at hl 1 rfl) ?_
  refine mz_o0 e2 ?_
  refine mz_geti S hG hM cf_2 fd_65 tw_143 dX2_copyFrom_10 k3 ?_
  refine mz_puti S hG hM hS cf_2 fd_65 tw_143 dX2_copyFrom_13 k4 rfl rfl (fun H locs hM hS hz9 => ?_)
  refine lv_aload_n S.1 S.2.1 dX2_copyFrom_16 rfl (lv_at hl 0 rfl) ?_
  refine mz_aload_n (x := r1) S.1 S.2.1 dX2_copyFrom_17 rfl (lv_at hl 1 rfl) ?_
  refine mz_o0 e2 ?_
  refine mz_geti S hG hM cf_2 fd_66 tw_146 dX2_copyFrom_18 k3 ?_
  refine mz_puti S hG hM hS cf_2 fd_66 tw_146 dX2_copyFrom_21 k4 rfl rfl (fun H locs hM hS hz9 => ?_)
  exact mz_vret S hr hlk hM hS (Nat.le_of_ble_eq_true rfl) (Nat.le_of_ble_eq_true rfl) dX2_copyFrom_24 ⟨rfl, h⟩
set_option maxRecDepth 100000 in
set_option maxHeartbeats 4000000 in
theorem c_X9_init {l : Launch} {G : mgT} {μ : mmT} {z : Nat} {o : Nat} {Q : mmT → Nat → Prop} (h : w_X9_init G μ z o Q) : MZ G l yX9_init cX9_init 1 { frames := 1, cells := 0, slots := 0, locals := 20 } [.ref o] μ z Q := by
  refine mz_MZ (by decide +kernel) (Nat.le_of_ble_eq_true rfl) (fun p e s m args below meth c S hG hr hlk hnm => ?_)
  intro H locs ls hM hS hg hz hl
  have hl : lv_has ls 1 [(0, .ref o)] := hl
  unfold w_X9_init at h
  refine lv_aload_n S.1 S.2.1 dX9_init_0 rfl (lv_at hl 0 rfl) ?_
  refine W.objInit S.1 S.2.1 S.2.2.2.1 (S.2.2.2.2 _ tw_61) (S.2.2.2.2 _ tw_42) (S.2.2.2.2 _ tw_43) rfl (by rw [S.2.2.1]; exact hl.1) rfl dX9_init_1 (Nat.le_of_ble_eq_true rfl) (Nat.le_of_ble_eq_true rfl) ?_
  refine W.eq (g2 := F0 m 4 ls []) rfl ?_
  refine lv_aload_n S.1 S.2.1 dX9_init_4 rfl (lv_at hl 0 rfl) ?_
  refine lv_iconst (v := (nI 0)) S.1 S.2.1 dX9_init_5 (by decide) ?_
  obtain ⟨k1, h⟩ := h
  refine mz_puti S hG hM hS cf_8 fd_256 tw_62 dX9_init_6 k1 rfl rfl (fun H locs hM hS hz9 => ?_)
  have hz := hz9.trans hz
  refine lv_aload_n S.1 S.2.1 dX9_init_9 rfl (lv_at hl 0 rfl) ?_
  refine lv_iconst (v := (nI 0)) S.1 S.2.1 dX9_init_10 (by decide) ?_
  obtain ⟨k2, h⟩ := h
  refine mz_puti S hG hM hS cf_8 fd_257 tw_65 dX9_init_11 k2 rfl rfl (fun H locs hM hS hz9 => ?_)
  have hz := hz9.trans hz
  refine lv_aload_n S.1 S.2.1 dX9_init_14 rfl (lv_at hl 0 rfl) ?_
  refine lv_iconst (v := (nI 0)) S.1 S.2.1 dX9_init_15 (by decide) ?_
  obtain ⟨k3, h⟩ := h
  refine mz_puti S hG hM hS cf_8 fd_258 tw_68 dX9_init_16 k3 rfl rfl (fun H locs hM hS hz9 => ?_)
  have hz := hz9.trans hz
  refine lv_aload_n S.1 S.2.1 dX9_init_19 rfl (lv_at hl 0 rfl) ?_
  refine lv_iconst (v := (nI 0)) S.1 S.2.1 dX9_init_20 (by decide) ?_
  obtain ⟨k4, h⟩ := h
  refine mz_puti S hG hM hS cf_8 fd_259 tw_71 dX9_init_21 k4 rfl rfl (fun H locs hM hS hz9 => ?_)
  have hz := hz9.trans hz
  refine lv_aload_n S.1 S.2.1 dX9_init_24 rfl (lv_at hl 0 rfl) ?_
  refine lv_iconst (v := (nI 0)) S.1 S.2.1 dX9_init_25 (by decide) ?_
  obtain ⟨k5, h⟩ := h
  refine mz_puti S hG hM hS cf_8 fd_260 tw_74 dX9_init_26 k5 rfl rfl (fun H locs hM hS hz9 => ?_)
  have hz := hz9.trans hz
  refine lv_aload_n S.1 S.2.1 dX9_init_29 rfl (lv_at hl 0 rfl) ?_
  refine lv_iconst (v := (nI 0)) S.1 S.2.1 dX9_init_30 (by decide) ?_
  obtain ⟨k6, h⟩ := h
  refine mz_puti S hG hM hS cf_8 fd_261 tw_77 dX9_init_31 k6 rfl rfl (fun H locs hM hS hz9 => ?_)
  have hz := hz9.trans hz
  refine lv_aload_n S.1 S.2.1 dX9_init_34 rfl (lv_at hl 0 rfl) ?_
  refine lv_iconst (v := (nI 0)) S.1 S.2.1 dX9_init_35 (by decide) ?_
  obtain ⟨k7, h⟩ := h
  refine mz_puti S hG hM hS cf_8 fd_262 tw_79 dX9_init_36 k7 rfl rfl (fun H locs hM hS hz9 => ?_)
  have hz := hz9.trans hz
  exact mz_zret S hr hlk hM hS hz hg (Nat.le_of_ble_eq_true rfl) (Nat.le_of_ble_eq_true rfl) dX9_init_39 h
set_option maxRecDepth 100000 in
set_option maxHeartbeats 4000000 in
theorem c_X5_init {l : Launch} {G : mgT} {μ : mmT} {z : Nat} {o : Nat} {Q : mmT → Nat → Prop} (h : w_X5_init G μ z o Q) : MZ G l yX5_init cX5_init 1 { frames := 1, cells := 0, slots := 0, locals := 20 } [.ref o] μ z Q := by
  refine mz_MZ (by decide +kernel) (Nat.le_of_ble_eq_true rfl) (fun p e s m args below meth c S hG hr hlk hnm => ?_)
  intro H locs ls hM hS hg hz hl
  have hl : lv_has ls 1 [(0, .ref o)] := hl
  unfold w_X5_init at h
  refine lv_aload_n S.1 S.2.1 dX5_init_0 rfl (lv_at hl 0 rfl) ?_
  refine W.objInit S.1 S.2.1 S.2.2.2.1 (S.2.2.2.2 _ tw_160) (S.2.2.2.2 _ tw_42) (S.2.2.2.2 _ tw_43) rfl (by rw [S.2.2.1]; exact hl.1) rfl dX5_init_1 (Nat.le_of_ble_eq_true rfl) (Nat.le_of_ble_eq_true rfl) ?_
  refine W.eq (g2 := F0 m 4 ls []) rfl ?_
  refine lv_aload_n S.1 S.2.1 dX5_init_4 rfl (lv_at hl 0 rfl) ?_
  refine lv_iconst (v := (nI 0)) S.1 S.2.1 dX5_init_5 (by decide) ?_
  obtain ⟨k1, h⟩ := h
  refine mz_puti S hG hM hS cf_4 fd_128 tw_161 dX5_init_6 k1 rfl rfl (fun H locs hM hS hz9 => ?_)
  have hz := hz9.trans hz
  refine lv_aload_n S.1 S.2.1 dX5_init_9 rfl (lv_at hl 0 rfl) ?_
  refine lv_iconst (v := (nI 0)) S.1 S.2.1 dX5_init_10 (by decide) ?_
  obtain ⟨k2, h⟩ := h
  refine mz_puti S hG hM hS cf_4 fd_129 tw_164 dX5_init_11 k2 rfl rfl (fun H locs hM hS hz9 => ?_)
  have hz := hz9.trans hz
  refine lv_aload_n S.1 S.2.1 dX5_init_14 rfl (lv_at hl 0 rfl) ?_
  refine lv_iconst (v := (nI 0)) S.1 S.2.1 dX5_init_15 (by decide) ?_
  obtain ⟨k3, h⟩ := h
  refine mz_puti S hG hM hS cf_4 fd_130 tw_167 dX5_init_16 k3 rfl rfl (fun H locs hM hS hz9 => ?_)
  have hz := hz9.trans hz
  refine lv_aload_n S.1 S.2.1 dX5_init_19 rfl (lv_at hl 0 rfl) ?_
  refine lv_iconst (v := (nI 0)) S.1 S.2.1 dX5_init_20 (by decide) ?_
  obtain ⟨k4, h⟩ := h
  refine mz_puti S hG hM hS cf_4 fd_131 tw_170 dX5_init_21 k4 rfl rfl (fun H locs hM hS hz9 => ?_)
  have hz := hz9.trans hz
  refine lv_aload_n S.1 S.2.1 dX5_init_24 rfl (lv_at hl 0 rfl) ?_
  refine lv_bipush (v := (nI 119)) S.1 S.2.1 dX5_init_25 (by decide) ?_
  obtain ⟨k5, h⟩ := h
  refine mz_puti S hG hM hS cf_4 fd_132 tw_173 dX5_init_27 k5 (mz_nC ⟨119, by decide, rfl⟩) (mz_fC ⟨119, by decide, rfl⟩) (fun H locs hM hS hz9 => ?_)
  have hz := hz9.trans hz
  refine lv_aload_n S.1 S.2.1 dX5_init_30 rfl (lv_at hl 0 rfl) ?_
  refine lv_iconst (v := (nI 0)) S.1 S.2.1 dX5_init_31 (by decide) ?_
  obtain ⟨k6, h⟩ := h
  refine mz_puti S hG hM hS cf_4 fd_133 tw_176 dX5_init_32 k6 rfl rfl (fun H locs hM hS hz9 => ?_)
  have hz := hz9.trans hz
  exact mz_zret S hr hlk hM hS hz hg (Nat.le_of_ble_eq_true rfl) (Nat.le_of_ble_eq_true rfl) dX5_init_35 h
set_option maxRecDepth 100000 in
set_option maxHeartbeats 4000000 in
theorem c_X6_init {l : Launch} {G : mgT} {μ : mmT} {z : Nat} {o : Nat} {Q : mmT → Nat → Prop} (h : w_X6_init G μ z o Q) : MZ G l yX6_init cX6_init 1 { frames := 1, cells := 2, slots := 16, locals := 20 } [.ref o] μ z Q := by
  refine mz_MZ (by decide +kernel) (Nat.le_of_ble_eq_true rfl) (fun p e s m args below meth c S hG hr hlk hnm => ?_)
  intro H locs ls hM hS hg hz hl
  have hl : lv_has ls 1 [(0, .ref o)] := hl
  unfold w_X6_init at h
  refine lv_aload_n S.1 S.2.1 dX6_init_0 rfl (lv_at hl 0 rfl) ?_
  refine W.objInit S.1 S.2.1 S.2.2.2.1 (S.2.2.2.2 _ tw_101) (S.2.2.2.2 _ tw_42) (S.2.2.2.2 _ tw_43) rfl (by rw [S.2.2.1]; exact hl.1) rfl dX6_init_1 (Nat.le_of_ble_eq_true rfl) (Nat.le_of_ble_eq_true rfl) ?_
  refine W.eq (g2 := F0 m 4 ls []) rfl ?_
  refine lv_aload_n S.1 S.2.1 dX6_init_4 rfl (lv_at hl 0 rfl) ?_
  refine lv_bipush (v := (nI 8)) S.1 S.2.1 dX6_init_5 (by decide) ?_
  refine mz_newa (j := 2) (atype := .int) S hG hM hS hz hg (by decide) rfl tw_134 (N := 8) (nI_pos (Nat.le_of_ble_eq_true rfl)) (nI_clamp (Nat.le_of_ble_eq_true rfl)) (Nat.le_of_ble_eq_true rfl) (Nat.le_of_ble_eq_true rfl) (Nat.le_of_ble_eq_true rfl) dX6_init_7 (fun H hM hS hz => ?_)
  have hg := Nat.le_succ_of_le hg
  refine W.cs (cells' := 1) (slots' := 8) rfl rfl ?_
  obtain ⟨k1, h⟩ := h
  refine mz_putFr (x := (some z)) S hG hM hS cf_5 fd_160 tw_102 dX6_init_9 (by rw [hnm]; rfl) k1 rfl rfl (fun H locs hM hS hz9 => ?_)
  have hz := hz9.trans hz
  refine lv_aload_n S.1 S.2.1 dX6_init_12 rfl (lv_at hl 0 rfl) ?_
  refine lv_bipush (v := (nI 8)) S.1 S.2.1 dX6_init_13 (by decide) ?_
  refine mz_newa (j := 2) (atype := .int) S hG hM hS hz hg (by decide) rfl tw_134 (N := 8) (nI_pos (Nat.le_of_ble_eq_true rfl)) (nI_clamp (Nat.le_of_ble_eq_true rfl)) (Nat.le_of_ble_eq_true rfl) (Nat.le_of_ble_eq_true rfl) (Nat.le_of_ble_eq_true rfl) dX6_init_15 (fun H hM hS hz => ?_)
  have hg := Nat.le_succ_of_le hg
  refine W.cs (cells' := 2) (slots' := 16) rfl rfl ?_
  obtain ⟨k2, h⟩ := h
  refine mz_putFr (x := (some (z + 1))) S hG hM hS cf_5 fd_161 tw_104 dX6_init_17 (by rw [hnm]; rfl) k2 rfl rfl (fun H locs hM hS hz9 => ?_)
  have hz := hz9.trans hz
  refine lv_aload_n S.1 S.2.1 dX6_init_20 rfl (lv_at hl 0 rfl) ?_
  refine lv_iconst (v := (nI 0)) S.1 S.2.1 dX6_init_21 (by decide) ?_
  obtain ⟨k3, h⟩ := h
  refine mz_puti S hG hM hS cf_5 fd_162 tw_105 dX6_init_22 k3 rfl rfl (fun H locs hM hS hz9 => ?_)
  have hz := hz9.trans hz
  refine lv_aload_n S.1 S.2.1 dX6_init_25 rfl (lv_at hl 0 rfl) ?_
  refine lv_iconst (v := (nI 0)) S.1 S.2.1 dX6_init_26 (by decide) ?_
  obtain ⟨k4, h⟩ := h
  refine mz_puti S hG hM hS cf_5 fd_163 tw_108 dX6_init_27 k4 rfl rfl (fun H locs hM hS hz9 => ?_)
  have hz := hz9.trans hz
  refine lv_aload_n S.1 S.2.1 dX6_init_30 rfl (lv_at hl 0 rfl) ?_
  refine lv_iconst (v := (nI 0)) S.1 S.2.1 dX6_init_31 (by decide) ?_
  obtain ⟨k5, h⟩ := h
  refine mz_puti S hG hM hS cf_5 fd_164 tw_111 dX6_init_32 k5 rfl rfl (fun H locs hM hS hz9 => ?_)
  have hz := hz9.trans hz
  refine lv_aload_n S.1 S.2.1 dX6_init_35 rfl (lv_at hl 0 rfl) ?_
  refine lv_iconst (v := (nI 0)) S.1 S.2.1 dX6_init_36 (by decide) ?_
  obtain ⟨k6, h⟩ := h
  refine mz_puti S hG hM hS cf_5 fd_165 tw_113 dX6_init_37 k6 rfl rfl (fun H locs hM hS hz9 => ?_)
  have hz := hz9.trans hz
  refine lv_aload_n S.1 S.2.1 dX6_init_40 rfl (lv_at hl 0 rfl) ?_
  refine lv_iconst (v := (nI 0)) S.1 S.2.1 dX6_init_41 (by decide) ?_
  obtain ⟨k7, h⟩ := h
  refine mz_puti S hG hM hS cf_5 fd_166 tw_116 dX6_init_42 k7 rfl rfl (fun H locs hM hS hz9 => ?_)
  have hz := hz9.trans hz
  exact mz_zret S hr hlk hM hS hz hg (Nat.le_of_ble_eq_true rfl) (Nat.le_of_ble_eq_true rfl) dX6_init_45 h
set_option maxRecDepth 100000 in
set_option maxHeartbeats 4000000 in
theorem c_X8_init {l : Launch} {G : mgT} {μ : mmT} {z : Nat} {o : Nat} {Q : mmT → Nat → Prop} (h : w_X8_init G μ z o Q) : MZ G l yX8_init cX8_init 2 { frames := 2, cells := 43, slots := 285, locals := 40 } [.ref o] μ z Q := by
  refine mz_MZ (by decide +kernel) (Nat.le_of_ble_eq_true rfl) (fun p e s m args below meth c S hG hr hlk hnm => ?_)
  have hB121 : ∀ (n : Nat) (x1 : Int32) (t121 : Nat) (μ : mmT) (z : Nat) (H : Heap) (locs : List Loc) (ls : Array Slot), Mm G μ H → va_S (Ah G) s.heap H locs → gh G ≤ z → H.size = z → lv_has ls 2 [(0, .ref o), (1, .int x1)] → w_X8_init_l121 G o Q  n x1 t121 μ z → W p l e { frames := 2, cells := 43, slots := 285, locals := 40 } s m args below meth c H locs (26 + 1 * t121) (183 + 6 * t121) (MQ below (mQz G Q) args s 43 285 (Ah G)) (F0 m 121 ls []) := by
    intro  n
    induction n with
    | zero =>
      intro x1 t121 μ z H locs ls hM hS hg hz hl h
      exact False.elim h
    | succ n ih =>
      intro x1 t121 μ z H locs ls hM hS hg hz hl h
      have h : w_X8_init_b121 G o Q  (w_X8_init_l121 G o Q  n) x1 t121 μ z := h
      unfold w_X8_init_b121 at h
      obtain ⟨ht121, h⟩ := h
      refine lv_iload_n S.1 S.2.1 dX8_init_121 rfl (lv_at hl 1 rfl) ?_
      refine lv_bipush (v := (nI 16)) S.1 S.2.1 dX8_init_122 (by decide) ?_
      refine lv_icmp_ge (tgt := 146) S.1 S.2.1 dX8_init_124 (by decide) (fun c15 => ?_) (fun c15 => ?_)
      · have h := h.1 c15
        exact mz_zret S hr hlk hM hS hz hg (by show _ ≤ 43; omega) (by show _ ≤ 285; omega) dX8_init_146 h
      · have h := h.2 c15
        refine lv_aload_n S.1 S.2.1 dX8_init_127 rfl (lv_at hl 0 rfl) ?_
        obtain ⟨k16, h⟩ := h
        refine mz_getr S hG hM cf_7 fd_226 tw_194 dX8_init_128 k16 ?_
        refine lv_iload_n S.1 S.2.1 dX8_init_131 rfl (lv_at hl 1 rfl) ?_
        refine mz_new S hG hM hS hz hg cf_4 nv_4 tw_54 tw_156 tw_6 (by show (26 + 1 * t121) + 1 ≤ 43; omega) (by show (183 + 6 * t121) + 6 ≤ 285; omega) dX8_init_132 (fun H hM hS hz => ?_)
        have hg := Nat.le_succ_of_le hg
        refine W.cs (cells' := 27 + 1 * t121) (slots' := 189 + 6 * t121) (by first | omega | (dsimp only; omega)) (by first | omega | (dsimp only; omega)) ?_
        refine lv_dup S.1 S.2.1 dX8_init_135 rfl ?_
        obtain ⟨k17, h⟩ := h
        refine mz_IN (host := "CrowMail") S hG hM hS hz hg (As := []) (rest := [.ref z, .int x1, va_rf (mR μ 226 o)]) (c_X5_init h) yf_X5_init rfl (List.mem_of_getElem? (i := 157) (by decide +kernel)) tw_158 ⟨Nat.le_of_ble_eq_true rfl, Nat.le_of_ble_eq_true rfl⟩ ⟨(by show (27 + 1 * t121) + 0 ≤ 43; omega), (by show (189 + 6 * t121) + 0 ≤ 285; omega)⟩ rfl hl.1 rfl (by simp [mz_cat, mz_cr, mz_ci, mz_cl, mz_cf, mz_cd, mz_cn]) dX8_init_136 (fun μ18 z19 H locs h hM hS hg hz => ?_)
        refine W.cs (cells' := 27 + 1 * t121) (slots' := 189 + 6 * t121) (by first | omega | (dsimp only; omega)) (by first | omega | (dsimp only; omega)) ?_
        obtain ⟨a20, e21, h⟩ := h
        refine mz_o2 e21 ?_
        obtain ⟨k22, h⟩ := h
        obtain ⟨k23, h⟩ := h
        obtain ⟨b24, h⟩ := h
        refine mz_aast (j := 7) S hG hM hS cf_4 dX8_init_139 (by decide) rfl k22 k23 b24 (fun H locs hM hS hz9 => ?_)
        have hz := hz9.trans hz
        refine lv_iinc (v := (x1 + nI 1)) (lv' := [(1, .int (x1 + nI 1)), (0, .ref o)]) S.1 S.2.1 dX8_init_140 hl (k := 1) rfl rfl (by decide) rfl (fun ls hl => ?_)
        refine lv_goto (tgt := 121) S.1 S.2.1 dX8_init_143 (by decide) ?_
        refine W.widen (k := 26 + 1 * (t121 + 1)) (n := 183 + 6 * (t121 + 1)) (by omega) (by omega) ?_
        exact ih (x1 + nI 1) (t121 + 1) (sB μ18 a20 x1.toNatClampNeg (some z)) z19 H locs ls hM hS hg hz (lv_sub hl [1, 0] rfl) h
  have hB95 : ∀ (n : Nat) (x1 : Int32) (t95 : Nat) (μ : mmT) (z : Nat) (H : Heap) (locs : List Loc) (ls : Array Slot), Mm G μ H → va_S (Ah G) s.heap H locs → gh G ≤ z → H.size = z → lv_has ls 2 [(0, .ref o), (1, .int x1)] → w_X8_init_l95 G o Q  n x1 t95 μ z → W p l e { frames := 2, cells := 43, slots := 285, locals := 40 } s m args below meth c H locs (22 + 1 * t95) (171 + 3 * t95) (MQ below (mQz G Q) args s 43 285 (Ah G)) (F0 m 95 ls []) := by
    intro  n
    induction n with
    | zero =>
      intro x1 t95 μ z H locs ls hM hS hg hz hl h
      exact False.elim h
    | succ n ih =>
      intro x1 t95 μ z H locs ls hM hS hg hz hl h
      have h : w_X8_init_b95 G o Q  (w_X8_init_l95 G o Q  n) x1 t95 μ z := h
      unfold w_X8_init_b95 at h
      obtain ⟨ht95, h⟩ := h
      refine lv_iload_n S.1 S.2.1 dX8_init_95 rfl (lv_at hl 1 rfl) ?_
      refine lv_iconst (v := (nI 4)) S.1 S.2.1 dX8_init_96 (by decide) ?_
      refine lv_icmp_ge (tgt := 119) S.1 S.2.1 dX8_init_97 (by decide) (fun c14 => ?_) (fun c14 => ?_)
      · have h := h.1 c14
        refine lv_iconst (v := (nI 0)) S.1 S.2.1 dX8_init_119 (by decide) ?_
        refine lv_istore_n (lv' := [(1, .int (nI 0)), (0, .ref o)]) S.1 S.2.1 dX8_init_120 rfl hl (by decide) rfl (fun ls hl => ?_)
        obtain ⟨n9, h⟩ := h
        refine W.widen (k := 26 + 1 * 0) (n := 183 + 6 * 0) (by omega) (by omega) ?_
        exact hB121  n9 (nI 0) 0 μ z H locs ls hM hS hg hz (lv_sub hl [1, 0] rfl) h
      · have h := h.2 c14
        refine lv_aload_n S.1 S.2.1 dX8_init_100 rfl (lv_at hl 0 rfl) ?_
        obtain ⟨k25, h⟩ := h
        refine mz_getr S hG hM cf_7 fd_225 tw_193 dX8_init_101 k25 ?_
        refine lv_iload_n S.1 S.2.1 dX8_init_104 rfl (lv_at hl 1 rfl) ?_
        refine mz_new S hG hM hS hz hg cf_2 nv_2 tw_52 tw_135 tw_5 (by show (22 + 1 * t95) + 1 ≤ 43; omega) (by show (171 + 3 * t95) + 3 ≤ 285; omega) dX8_init_105 (fun H hM hS hz => ?_)
        have hg := Nat.le_succ_of_le hg
        refine W.cs (cells' := 23 + 1 * t95) (slots' := 174 + 3 * t95) (by first | omega | (dsimp only; omega)) (by first | omega | (dsimp only; omega)) ?_
        refine lv_dup S.1 S.2.1 dX8_init_108 rfl ?_
        obtain ⟨k26, h⟩ := h
        refine mz_IN (host := "CrowMail") S hG hM hS hz hg (As := []) (rest := [.ref z, .int x1, va_rf (mR μ 225 o)]) (c_X2_init h) yf_X2_init rfl (List.mem_of_getElem? (i := 136) (by decide +kernel)) tw_137 ⟨Nat.le_of_ble_eq_true rfl, Nat.le_of_ble_eq_true rfl⟩ ⟨(by show (23 + 1 * t95) + 0 ≤ 43; omega), (by show (174 + 3 * t95) + 0 ≤ 285; omega)⟩ rfl hl.1 rfl (by simp [mz_cat, mz_cr, mz_ci, mz_cl, mz_cf, mz_cd, mz_cn]) dX8_init_109 (fun μ27 z28 H locs h hM hS hg hz => ?_)
        refine W.cs (cells' := 23 + 1 * t95) (slots' := 174 + 3 * t95) (by first | omega | (dsimp only; omega)) (by first | omega | (dsimp only; omega)) ?_
        obtain ⟨a29, e30, h⟩ := h
        refine mz_o2 e30 ?_
        obtain ⟨k31, h⟩ := h
        obtain ⟨k32, h⟩ := h
        obtain ⟨b33, h⟩ := h
        refine mz_aast (j := 6) S hG hM hS cf_2 dX8_init_112 (by decide) rfl k31 k32 b33 (fun H locs hM hS hz9 => ?_)
        have hz := hz9.trans hz
        refine lv_iinc (v := (x1 + nI 1)) (lv' := [(1, .int (x1 + nI 1)), (0, .ref o)]) S.1 S.2.1 dX8_init_113 hl (k := 1) rfl rfl (by decide) rfl (fun ls hl => ?_)
        refine lv_goto (tgt := 95) S.1 S.2.1 dX8_init_116 (by decide) ?_
        refine W.widen (k := 22 + 1 * (t95 + 1)) (n := 171 + 3 * (t95 + 1)) (by omega) (by omega) ?_
        exact ih (x1 + nI 1) (t95 + 1) (sB μ27 a29 x1.toNatClampNeg (some z)) z28 H locs ls hM hS hg hz (lv_sub hl [1, 0] rfl) h
  have hB68 : ∀ (n : Nat) (x1 : Int32) (t68 : Nat) (μ : mmT) (z : Nat) (H : Heap) (locs : List Loc) (ls : Array Slot), Mm G μ H → va_S (Ah G) s.heap H locs → gh G ≤ z → H.size = z → lv_has ls 2 [(0, .ref o), (1, .int x1)] → w_X8_init_l68 G o Q  n x1 t68 μ z → W p l e { frames := 2, cells := 43, slots := 285, locals := 40 } s m args below meth c H locs (4 + 3 * t68) (33 + 23 * t68) (MQ below (mQz G Q) args s 43 285 (Ah G)) (F0 m 68 ls []) := by
    intro  n
    induction n with
    | zero =>
      intro x1 t68 μ z H locs ls hM hS hg hz hl h
      exact False.elim h
    | succ n ih =>
      intro x1 t68 μ z H locs ls hM hS hg hz hl h
      have h : w_X8_init_b68 G o Q  (w_X8_init_l68 G o Q  n) x1 t68 μ z := h
      unfold w_X8_init_b68 at h
      obtain ⟨ht68, h⟩ := h
      refine lv_iload_n S.1 S.2.1 dX8_init_68 rfl (lv_at hl 1 rfl) ?_
      refine lv_bipush (v := (nI 6)) S.1 S.2.1 dX8_init_69 (by decide) ?_
      refine lv_icmp_ge (tgt := 93) S.1 S.2.1 dX8_init_71 (by decide) (fun c13 => ?_) (fun c13 => ?_)
      · have h := h.1 c13
        refine lv_iconst (v := (nI 0)) S.1 S.2.1 dX8_init_93 (by decide) ?_
        refine lv_istore_n (lv' := [(1, .int (nI 0)), (0, .ref o)]) S.1 S.2.1 dX8_init_94 rfl hl (by decide) rfl (fun ls hl => ?_)
        obtain ⟨n9, h⟩ := h
        refine W.widen (k := 22 + 1 * 0) (n := 171 + 3 * 0) (by omega) (by omega) ?_
        exact hB95  n9 (nI 0) 0 μ z H locs ls hM hS hg hz (lv_sub hl [1, 0] rfl) h
      · have h := h.2 c13
        refine lv_aload_n S.1 S.2.1 dX8_init_74 rfl (lv_at hl 0 rfl) ?_
        obtain ⟨k34, h⟩ := h
        refine mz_getr S hG hM cf_7 fd_224 tw_192 dX8_init_75 k34 ?_
        refine lv_iload_n S.1 S.2.1 dX8_init_78 rfl (lv_at hl 1 rfl) ?_
        refine mz_new S hG hM hS hz hg cf_5 nv_5 tw_50 tw_97 tw_4 (by show (4 + 3 * t68) + 1 ≤ 43; omega) (by show (33 + 23 * t68) + 7 ≤ 285; omega) dX8_init_79 (fun H hM hS hz => ?_)
        have hg := Nat.le_succ_of_le hg
        refine W.cs (cells' := 5 + 3 * t68) (slots' := 40 + 23 * t68) (by first | omega | (dsimp only; omega)) (by first | omega | (dsimp only; omega)) ?_
        refine lv_dup S.1 S.2.1 dX8_init_82 rfl ?_
        obtain ⟨k35, h⟩ := h
        refine mz_IN (host := "CrowMail") S hG hM hS hz hg (As := []) (rest := [.ref z, .int x1, va_rf (mR μ 224 o)]) (c_X6_init h) yf_X6_init rfl (List.mem_of_getElem? (i := 98) (by decide +kernel)) tw_99 ⟨Nat.le_of_ble_eq_true rfl, Nat.le_of_ble_eq_true rfl⟩ ⟨(by show (5 + 3 * t68) + 2 ≤ 43; omega), (by show (40 + 23 * t68) + 16 ≤ 285; omega)⟩ rfl hl.1 rfl (by simp [mz_cat, mz_cr, mz_ci, mz_cl, mz_cf, mz_cd, mz_cn]) dX8_init_83 (fun μ36 z37 H locs h hM hS hg hz => ?_)
        refine W.cs (cells' := 7 + 3 * t68) (slots' := 56 + 23 * t68) (by first | omega | (dsimp only; omega)) (by first | omega | (dsimp only; omega)) ?_
        obtain ⟨a38, e39, h⟩ := h
        refine mz_o2 e39 ?_
        obtain ⟨k40, h⟩ := h
        obtain ⟨k41, h⟩ := h
        obtain ⟨b42, h⟩ := h
        refine mz_aast (j := 8) S hG hM hS cf_5 dX8_init_86 (by decide) rfl k40 k41 b42 (fun H locs hM hS hz9 => ?_)
        have hz := hz9.trans hz
        refine lv_iinc (v := (x1 + nI 1)) (lv' := [(1, .int (x1 + nI 1)), (0, .ref o)]) S.1 S.2.1 dX8_init_87 hl (k := 1) rfl rfl (by decide) rfl (fun ls hl => ?_)
        refine lv_goto (tgt := 68) S.1 S.2.1 dX8_init_90 (by decide) ?_
        refine W.widen (k := 4 + 3 * (t68 + 1)) (n := 33 + 23 * (t68 + 1)) (by omega) (by omega) ?_
        exact ih (x1 + nI 1) (t68 + 1) (sB μ36 a38 x1.toNatClampNeg (some z)) z37 H locs ls hM hS hg hz (lv_sub hl [1, 0] rfl) h
  intro H locs ls hM hS hg hz hl
  have hl : lv_has ls 2 [(0, .ref o)] := hl
  unfold w_X8_init at h
  refine lv_aload_n S.1 S.2.1 dX8_init_0 rfl (lv_at hl 0 rfl) ?_
  refine W.objInit S.1 S.2.1 S.2.2.2.1 (S.2.2.2.2 _ tw_49) (S.2.2.2.2 _ tw_42) (S.2.2.2.2 _ tw_43) rfl (by rw [S.2.2.1]; exact hl.1) rfl dX8_init_1 (Nat.le_of_ble_eq_true rfl) (Nat.le_of_ble_eq_true rfl) ?_
  refine W.eq (g2 := F0 m 4 ls []) rfl ?_
  refine lv_aload_n S.1 S.2.1 dX8_init_4 rfl (lv_at hl 0 rfl) ?_
  refine lv_bipush (v := (nI 6)) S.1 S.2.1 dX8_init_5 (by decide) ?_
  refine mz_newq (j := 8) S hG hM hS hz hg (by decide) (by decide) rfl tw_50 (N := 6) (nI_pos (Nat.le_of_ble_eq_true rfl)) (nI_clamp (Nat.le_of_ble_eq_true rfl)) (Nat.le_of_ble_eq_true rfl) (Nat.le_of_ble_eq_true rfl) (Nat.le_of_ble_eq_true rfl) dX8_init_7 (fun H hM hS hz => ?_)
  have hg := Nat.le_succ_of_le hg
  refine W.cs (cells' := 1) (slots' := 6) rfl rfl ?_
  obtain ⟨k1, h⟩ := h
  refine mz_putFr (x := (some z)) S hG hM hS cf_7 fd_224 tw_192 dX8_init_10 (by rw [hnm]; rfl) k1 rfl rfl (fun H locs hM hS hz9 => ?_)
  have hz := hz9.trans hz
  refine lv_aload_n S.1 S.2.1 dX8_init_13 rfl (lv_at hl 0 rfl) ?_
  refine lv_iconst (v := (nI 4)) S.1 S.2.1 dX8_init_14 (by decide) ?_
  refine mz_newq (j := 6) S hG hM hS hz hg (by decide) (by decide) rfl tw_52 (N := 4) (nI_pos (Nat.le_of_ble_eq_true rfl)) (nI_clamp (Nat.le_of_ble_eq_true rfl)) (Nat.le_of_ble_eq_true rfl) (Nat.le_of_ble_eq_true rfl) (Nat.le_of_ble_eq_true rfl) dX8_init_15 (fun H hM hS hz => ?_)
  have hg := Nat.le_succ_of_le hg
  refine W.cs (cells' := 2) (slots' := 10) rfl rfl ?_
  obtain ⟨k2, h⟩ := h
  refine mz_putFr (x := (some (z + 1))) S hG hM hS cf_7 fd_225 tw_193 dX8_init_18 (by rw [hnm]; rfl) k2 rfl rfl (fun H locs hM hS hz9 => ?_)
  have hz := hz9.trans hz
  refine lv_aload_n S.1 S.2.1 dX8_init_21 rfl (lv_at hl 0 rfl) ?_
  refine lv_bipush (v := (nI 16)) S.1 S.2.1 dX8_init_22 (by decide) ?_
  refine mz_newq (j := 7) S hG hM hS hz hg (by decide) (by decide) rfl tw_54 (N := 16) (nI_pos (Nat.le_of_ble_eq_true rfl)) (nI_clamp (Nat.le_of_ble_eq_true rfl)) (Nat.le_of_ble_eq_true rfl) (Nat.le_of_ble_eq_true rfl) (Nat.le_of_ble_eq_true rfl) dX8_init_24 (fun H hM hS hz => ?_)
  have hg := Nat.le_succ_of_le hg
  refine W.cs (cells' := 3) (slots' := 26) rfl rfl ?_
  obtain ⟨k3, h⟩ := h
  refine mz_putFr (x := (some ((z + 1) + 1))) S hG hM hS cf_7 fd_226 tw_194 dX8_init_27 (by rw [hnm]; rfl) k3 rfl rfl (fun H locs hM hS hz9 => ?_)
  have hz := hz9.trans hz
  refine lv_aload_n S.1 S.2.1 dX8_init_30 rfl (lv_at hl 0 rfl) ?_
  refine mz_new S hG hM hS hz hg cf_8 nv_8 tw_56 tw_57 tw_3 (Nat.le_of_ble_eq_true rfl) (Nat.le_of_ble_eq_true rfl) dX8_init_31 (fun H hM hS hz => ?_)
  have hg := Nat.le_succ_of_le hg
  refine W.cs (cells' := 4) (slots' := 33) rfl rfl ?_
  refine lv_dup S.1 S.2.1 dX8_init_34 rfl ?_
  obtain ⟨k4, h⟩ := h
  refine mz_IN (host := "CrowMail") S hG hM hS hz hg (As := []) (rest := [.ref (((z + 1) + 1) + 1), .ref o]) (c_X9_init h) yf_X9_init rfl (List.mem_of_getElem? (i := 58) (by decide +kernel)) tw_59 ⟨Nat.le_of_ble_eq_true rfl, Nat.le_of_ble_eq_true rfl⟩ ⟨(Nat.le_of_ble_eq_true rfl), (Nat.le_of_ble_eq_true rfl)⟩ rfl hl.1 rfl (Nat.le_of_ble_eq_true rfl) dX8_init_35 (fun μ5 z6 H locs h hM hS hg hz => ?_)
  refine W.cs (cells' := 4) (slots' := 33) rfl rfl ?_
  obtain ⟨k7, h⟩ := h
  refine mz_putFr (x := (some (((z + 1) + 1) + 1))) S hG hM hS cf_7 fd_227 tw_196 dX8_init_38 (by rw [hnm]; rfl) k7 rfl rfl (fun H locs hM hS hz9 => ?_)
  have hz := hz9.trans hz
  refine lv_aload_n S.1 S.2.1 dX8_init_41 rfl (lv_at hl 0 rfl) ?_
  refine lv_iconst (v := (nI 0)) S.1 S.2.1 dX8_init_42 (by decide) ?_
  obtain ⟨k8, h⟩ := h
  refine mz_puti S hG hM hS cf_7 fd_228 tw_198 dX8_init_43 k8 rfl rfl (fun H locs hM hS hz9 => ?_)
  have hz := hz9.trans hz
  refine lv_aload_n S.1 S.2.1 dX8_init_46 rfl (lv_at hl 0 rfl) ?_
  refine lv_iconst (v := (nI 0)) S.1 S.2.1 dX8_init_47 (by decide) ?_
  obtain ⟨k9, h⟩ := h
  refine mz_puti S hG hM hS cf_7 fd_229 tw_200 dX8_init_48 k9 rfl rfl (fun H locs hM hS hz9 => ?_)
  have hz := hz9.trans hz
  refine lv_aload_n S.1 S.2.1 dX8_init_51 rfl (lv_at hl 0 rfl) ?_
  refine lv_iconst (v := (nI 0)) S.1 S.2.1 dX8_init_52 (by decide) ?_
  obtain ⟨k10, h⟩ := h
  refine mz_puti S hG hM hS cf_7 fd_230 tw_202 dX8_init_53 k10 rfl rfl (fun H locs hM hS hz9 => ?_)
  have hz := hz9.trans hz
  refine lv_aload_n S.1 S.2.1 dX8_init_56 rfl (lv_at hl 0 rfl) ?_
  refine lv_iconst (v := (nI 0)) S.1 S.2.1 dX8_init_57 (by decide) ?_
  obtain ⟨k11, h⟩ := h
  refine mz_puti S hG hM hS cf_7 fd_231 tw_204 dX8_init_58 k11 rfl rfl (fun H locs hM hS hz9 => ?_)
  have hz := hz9.trans hz
  refine lv_aload_n S.1 S.2.1 dX8_init_61 rfl (lv_at hl 0 rfl) ?_
  refine lv_iconst (v := (nI 0)) S.1 S.2.1 dX8_init_62 (by decide) ?_
  obtain ⟨k12, h⟩ := h
  refine mz_puti S hG hM hS cf_7 fd_232 tw_206 dX8_init_63 k12 rfl rfl (fun H locs hM hS hz9 => ?_)
  have hz := hz9.trans hz
  refine lv_iconst (v := (nI 0)) S.1 S.2.1 dX8_init_66 (by decide) ?_
  refine lv_istore_n (lv' := [(1, .int (nI 0)), (0, .ref o)]) S.1 S.2.1 dX8_init_67 rfl hl (by decide) rfl (fun ls hl => ?_)
  obtain ⟨n9, h⟩ := h
  refine W.widen (k := 4 + 3 * 0) (n := 33 + 23 * 0) (by omega) (by omega) ?_
  exact hB68  n9 (nI 0) 0 (sI (sI (sI (sI (sI (sR μ5 227 o (some (((z + 1) + 1) + 1))) 228 o (nI 0)) 229 o (nI 0)) 230 o (nI 0)) 231 o (nI 0)) 232 o (nI 0)) z6 H locs ls hM hS hg hz (lv_sub hl [1, 0] rfl) h
set_option maxRecDepth 100000 in
set_option maxHeartbeats 4000000 in
theorem c_X4_init {l : Launch} {G : mgT} {μ : mmT} {z : Nat} {o : Nat} {Q : mmT → Nat → Prop} (h : w_X4_init G μ z o Q) : MZ G l yX4_init cX4_init 2 { frames := 3, cells := 397, slots := 2654, locals := 61 } [.ref o] μ z Q := by
  refine mz_MZ (by decide +kernel) (Nat.le_of_ble_eq_true rfl) (fun p e s m args below meth c S hG hr hlk hnm => ?_)
  have hB25 : ∀ (n : Nat) (x1 : Int32) (t25 : Nat) (μ : mmT) (z : Nat) (H : Heap) (locs : List Loc) (ls : Array Slot), Mm G μ H → va_S (Ah G) s.heap H locs → gh G ≤ z → H.size = z → lv_has ls 2 [(0, .ref o), (1, .int x1)] → w_X4_init_l25 G o Q  n x1 t25 μ z → W p l e { frames := 3, cells := 397, slots := 2654, locals := 61 } s m args below meth c H locs (1 + 44 * t25) (8 + 294 * t25) (MQ below (mQz G Q) args s 397 2654 (Ah G)) (F0 m 25 ls []) := by
    intro  n
    induction n with
    | zero =>
      intro x1 t25 μ z H locs ls hM hS hg hz hl h
      exact False.elim h
    | succ n ih =>
      intro x1 t25 μ z H locs ls hM hS hg hz hl h
      have h : w_X4_init_b25 G o Q  (w_X4_init_l25 G o Q  n) x1 t25 μ z := h
      unfold w_X4_init_b25 at h
      obtain ⟨ht25, h⟩ := h
      refine lv_iload_n S.1 S.2.1 dX4_init_25 rfl (lv_at hl 1 rfl) ?_
      refine lv_bipush (v := (nI 8)) S.1 S.2.1 dX4_init_26 (by decide) ?_
      refine lv_icmp_ge (tgt := 50) S.1 S.2.1 dX4_init_28 (by decide) (fun c4 => ?_) (fun c4 => ?_)
      · have h := h.1 c4
        exact mz_zret S hr hlk hM hS hz hg (by show _ ≤ 397; omega) (by show _ ≤ 2654; omega) dX4_init_50 h
      · have h := h.2 c4
        refine lv_aload_n S.1 S.2.1 dX4_init_31 rfl (lv_at hl 0 rfl) ?_
        obtain ⟨k5, h⟩ := h
        refine mz_getr S hG hM cf_3 fd_96 tw_236 dX4_init_32 k5 ?_
        refine lv_iload_n S.1 S.2.1 dX4_init_35 rfl (lv_at hl 1 rfl) ?_
        refine mz_new S hG hM hS hz hg cf_7 nv_7 tw_233 tw_45 tw_2 (by show (1 + 44 * t25) + 1 ≤ 397; omega) (by show (8 + 294 * t25) + 9 ≤ 2654; omega) dX4_init_36 (fun H hM hS hz => ?_)
        have hg := Nat.le_succ_of_le hg
        refine W.cs (cells' := 2 + 44 * t25) (slots' := 17 + 294 * t25) (by first | omega | (dsimp only; omega)) (by first | omega | (dsimp only; omega)) ?_
        refine lv_dup S.1 S.2.1 dX4_init_39 rfl ?_
        obtain ⟨k6, h⟩ := h
        refine mz_I S hG hM hS hz hg (As := []) (rest := [.ref z, .int x1, va_rf (mR μ 96 o)]) (c_X8_init h) yf_X8_init rfl tw_235 tw_47 ⟨Nat.le_of_ble_eq_true rfl, Nat.le_of_ble_eq_true rfl⟩ ⟨(by show (2 + 44 * t25) + 43 ≤ 397; omega), (by show (17 + 294 * t25) + 285 ≤ 2654; omega)⟩ rfl hl.1 rfl (by simp [mz_cat, mz_cr, mz_ci, mz_cl, mz_cf, mz_cd, mz_cn]) dX4_init_40 (fun μ7 z8 H locs h hM hS hg hz => ?_)
        refine W.cs (cells' := 45 + 44 * t25) (slots' := 302 + 294 * t25) (by first | omega | (dsimp only; omega)) (by first | omega | (dsimp only; omega)) ?_
        obtain ⟨a9, e10, h⟩ := h
        refine mz_o2 e10 ?_
        obtain ⟨k11, h⟩ := h
        obtain ⟨k12, h⟩ := h
        obtain ⟨b13, h⟩ := h
        refine mz_aast (j := 9) S hG hM hS cf_7 dX4_init_43 (by decide) rfl k11 k12 b13 (fun H locs hM hS hz9 => ?_)
        have hz := hz9.trans hz
        refine lv_iinc (v := (x1 + nI 1)) (lv' := [(1, .int (x1 + nI 1)), (0, .ref o)]) S.1 S.2.1 dX4_init_44 hl (k := 1) rfl rfl (by decide) rfl (fun ls hl => ?_)
        refine lv_goto (tgt := 25) S.1 S.2.1 dX4_init_47 (by decide) ?_
        refine W.widen (k := 1 + 44 * (t25 + 1)) (n := 8 + 294 * (t25 + 1)) (by omega) (by omega) ?_
        exact ih (x1 + nI 1) (t25 + 1) (sB μ7 a9 x1.toNatClampNeg (some z)) z8 H locs ls hM hS hg hz (lv_sub hl [1, 0] rfl) h
  intro H locs ls hM hS hg hz hl
  have hl : lv_has ls 2 [(0, .ref o)] := hl
  unfold w_X4_init at h
  refine lv_aload_n S.1 S.2.1 dX4_init_0 rfl (lv_at hl 0 rfl) ?_
  refine W.objInit S.1 S.2.1 S.2.2.2.1 (S.2.2.2.2 _ tw_232) (S.2.2.2.2 _ tw_42) (S.2.2.2.2 _ tw_43) rfl (by rw [S.2.2.1]; exact hl.1) rfl dX4_init_1 (Nat.le_of_ble_eq_true rfl) (Nat.le_of_ble_eq_true rfl) ?_
  refine W.eq (g2 := F0 m 4 ls []) rfl ?_
  refine lv_aload_n S.1 S.2.1 dX4_init_4 rfl (lv_at hl 0 rfl) ?_
  refine lv_bipush (v := (nI 8)) S.1 S.2.1 dX4_init_5 (by decide) ?_
  refine mz_newq (j := 9) S hG hM hS hz hg (by decide) (by decide) rfl tw_233 (N := 8) (nI_pos (Nat.le_of_ble_eq_true rfl)) (nI_clamp (Nat.le_of_ble_eq_true rfl)) (Nat.le_of_ble_eq_true rfl) (Nat.le_of_ble_eq_true rfl) (Nat.le_of_ble_eq_true rfl) dX4_init_7 (fun H hM hS hz => ?_)
  have hg := Nat.le_succ_of_le hg
  refine W.cs (cells' := 1) (slots' := 8) rfl rfl ?_
  obtain ⟨k1, h⟩ := h
  refine mz_putFr (x := (some z)) S hG hM hS cf_3 fd_96 tw_236 dX4_init_10 (by rw [hnm]; rfl) k1 rfl rfl (fun H locs hM hS hz9 => ?_)
  have hz := hz9.trans hz
  refine lv_aload_n S.1 S.2.1 dX4_init_13 rfl (lv_at hl 0 rfl) ?_
  refine lv_iconst (v := (nI 0)) S.1 S.2.1 dX4_init_14 (by decide) ?_
  obtain ⟨k2, h⟩ := h
  refine mz_puti S hG hM hS cf_3 fd_97 tw_237 dX4_init_15 k2 rfl rfl (fun H locs hM hS hz9 => ?_)
  have hz := hz9.trans hz
  refine lv_aload_n S.1 S.2.1 dX4_init_18 rfl (lv_at hl 0 rfl) ?_
  refine lv_iconst (v := (nI 0)) S.1 S.2.1 dX4_init_19 (by decide) ?_
  obtain ⟨k3, h⟩ := h
  refine mz_puti S hG hM hS cf_3 fd_98 tw_238 dX4_init_20 k3 rfl rfl (fun H locs hM hS hz9 => ?_)
  have hz := hz9.trans hz
  refine lv_iconst (v := (nI 0)) S.1 S.2.1 dX4_init_23 (by decide) ?_
  refine lv_istore_n (lv' := [(1, .int (nI 0)), (0, .ref o)]) S.1 S.2.1 dX4_init_24 rfl hl (by decide) rfl (fun ls hl => ?_)
  obtain ⟨n9, h⟩ := h
  refine W.widen (k := 1 + 44 * 0) (n := 8 + 294 * 0) (by omega) (by omega) ?_
  exact hB25  n9 (nI 0) 0 (sI (sI (sR (nA μ z 9 8) 96 o (some z)) 97 o (nI 0)) 98 o (nI 0)) (z + 1) H locs ls hM hS hg hz (lv_sub hl [1, 0] rfl) h
set_option maxRecDepth 100000 in
set_option maxHeartbeats 4000000 in
theorem c_X9_copyFrom {l : Launch} {G : mgT} {μ : mmT} {o : Nat} {r1 : Option Nat} {Q : mmT → Prop} (h : w_X9_copyFrom G μ o r1 Q) : MC G l yX9_copyFrom cX9_copyFrom 2 none { frames := 0, cells := 0, slots := 0, locals := 0 } [.ref o, va_rf r1] μ (pV Q) := by
  refine mz_MC (by decide +kernel) (by simp [lg_sl, mz_cat, mz_cr, mz_ci, mz_cl, mz_cf, mz_cd, mz_cn]) (fun p e s m args below meth c S hG hr hlk hnm => ?_)
  intro H locs ls hM hS hl
  have hl : lv_has ls 2 [(0, .ref o), (1, va_rf r1)] := by simpa [lv_args, mz_cat, mz_cr, mz_ci, mz_cl, mz_cf, mz_cd, mz_cn] using hl
  unfold w_X9_copyFrom at h
  refine lv_aload_n S.1 S.2.1 dX9_copyFrom_0 rfl (lv_at hl 0 rfl) ?_
  refine mz_aload_n (x := r1) S.1 S.2.1 dX9_copyFrom_1 rfl (lv_at hl 1 rfl) ?_
  obtain ⟨a1, e2, h⟩ := h
  refine mz_o0 e2 ?_
  obtain ⟨k3, h⟩ := h
  refine mz_geti S hG hM cf_8 fd_256 tw_62 dX9_copyFrom_2 k3 ?_
  obtain ⟨k4, h⟩ := h
  refine mz_puti S hG hM hS cf_8 fd_256 tw_62 dX9_copyFrom_5 k4 rfl rfl (fun H locs hM hS hz9 => ?_)
  refine lv_aload_n S.1 S.2.1 dX9_copyFrom_8 rfl (lv_at hl 0 rfl) ?_
  refine mz_aload_n (x := r1) S.1 S.2.1 dX9_copyFrom_9 rfl (lv_at hl 1 rfl) ?_
  refine mz_o0 e2 ?_
  refine mz_geti S hG hM cf_8 fd_257 tw_65 dX9_copyFrom_10 k3 ?_
  refine mz_puti S hG hM hS cf_8 fd_257 tw_65 dX9_copyFrom_13 k4 rfl rfl (fun H locs hM hS hz9 => ?_)
  refine lv_aload_n S.1 S.2.1 dX9_copyFrom_16 rfl (lv_at hl 0 rfl) ?_
  refine mz_aload_n (x := r1) S.1 S.2.1 dX9_copyFrom_17 rfl (lv_at hl 1 rfl) ?_
  refine mz_o0 e2 ?_
  refine mz_geti S hG hM cf_8 fd_258 tw_68 dX9_copyFrom_18 k3 ?_
  refine mz_puti S hG hM hS cf_8 fd_258 tw_68 dX9_copyFrom_21 k4 rfl rfl (fun H locs hM hS hz9 => ?_)
  refine lv_aload_n S.1 S.2.1 dX9_copyFrom_24 rfl (lv_at hl 0 rfl) ?_
  refine mz_aload_n (x := r1) S.1 S.2.1 dX9_copyFrom_25 rfl (lv_at hl 1 rfl) ?_
  refine mz_o0 e2 ?_
  refine mz_geti S hG hM cf_8 fd_259 tw_71 dX9_copyFrom_26 k3 ?_
  refine mz_puti S hG hM hS cf_8 fd_259 tw_71 dX9_copyFrom_29 k4 rfl rfl (fun H locs hM hS hz9 => ?_)
  refine lv_aload_n S.1 S.2.1 dX9_copyFrom_32 rfl (lv_at hl 0 rfl) ?_
  refine mz_aload_n (x := r1) S.1 S.2.1 dX9_copyFrom_33 rfl (lv_at hl 1 rfl) ?_
  refine mz_o0 e2 ?_
  refine mz_geti S hG hM cf_8 fd_260 tw_74 dX9_copyFrom_34 k3 ?_
  refine mz_puti S hG hM hS cf_8 fd_260 tw_74 dX9_copyFrom_37 k4 rfl rfl (fun H locs hM hS hz9 => ?_)
  refine lv_aload_n S.1 S.2.1 dX9_copyFrom_40 rfl (lv_at hl 0 rfl) ?_
  refine mz_aload_n (x := r1) S.1 S.2.1 dX9_copyFrom_41 rfl (lv_at hl 1 rfl) ?_
  refine mz_o0 e2 ?_
  refine mz_geti S hG hM cf_8 fd_261 tw_77 dX9_copyFrom_42 k3 ?_
  refine mz_puti S hG hM hS cf_8 fd_261 tw_77 dX9_copyFrom_45 k4 rfl rfl (fun H locs hM hS hz9 => ?_)
  refine lv_aload_n S.1 S.2.1 dX9_copyFrom_48 rfl (lv_at hl 0 rfl) ?_
  refine mz_aload_n (x := r1) S.1 S.2.1 dX9_copyFrom_49 rfl (lv_at hl 1 rfl) ?_
  refine mz_o0 e2 ?_
  refine mz_geti S hG hM cf_8 fd_262 tw_79 dX9_copyFrom_50 k3 ?_
  refine mz_puti S hG hM hS cf_8 fd_262 tw_79 dX9_copyFrom_53 k4 rfl rfl (fun H locs hM hS hz9 => ?_)
  exact mz_vret S hr hlk hM hS (Nat.le_of_ble_eq_true rfl) (Nat.le_of_ble_eq_true rfl) dX9_copyFrom_56 ⟨rfl, h⟩
set_option maxRecDepth 100000 in
set_option maxHeartbeats 4000000 in
theorem c_X5_copyFrom {l : Launch} {G : mgT} {μ : mmT} {o : Nat} {r1 : Option Nat} {Q : mmT → Prop} (h : w_X5_copyFrom G μ o r1 Q) : MC G l yX5_copyFrom cX5_copyFrom 2 none { frames := 0, cells := 0, slots := 0, locals := 0 } [.ref o, va_rf r1] μ (pV Q) := by
  refine mz_MC (by decide +kernel) (by simp [lg_sl, mz_cat, mz_cr, mz_ci, mz_cl, mz_cf, mz_cd, mz_cn]) (fun p e s m args below meth c S hG hr hlk hnm => ?_)
  intro H locs ls hM hS hl
  have hl : lv_has ls 2 [(0, .ref o), (1, va_rf r1)] := by simpa [lv_args, mz_cat, mz_cr, mz_ci, mz_cl, mz_cf, mz_cd, mz_cn] using hl
  unfold w_X5_copyFrom at h
  refine lv_aload_n S.1 S.2.1 dX5_copyFrom_0 rfl (lv_at hl 0 rfl) ?_
  refine mz_aload_n (x := r1) S.1 S.2.1 dX5_copyFrom_1 rfl (lv_at hl 1 rfl) ?_
  obtain ⟨a1, e2, h⟩ := h
  refine mz_o0 e2 ?_
  obtain ⟨k3, h⟩ := h
  refine mz_geti S hG hM cf_4 fd_128 tw_161 dX5_copyFrom_2 k3 ?_
  obtain ⟨k4, h⟩ := h
  refine mz_puti S hG hM hS cf_4 fd_128 tw_161 dX5_copyFrom_5 k4 rfl rfl (fun H locs hM hS hz9 => ?_)
  refine lv_aload_n S.1 S.2.1 dX5_copyFrom_8 rfl (lv_at hl 0 rfl) ?_
  refine mz_aload_n (x := r1) S.1 S.2.1 dX5_copyFrom_9 rfl (lv_at hl 1 rfl) ?_
  refine mz_o0 e2 ?_
  refine mz_geti S hG hM cf_4 fd_129 tw_164 dX5_copyFrom_10 k3 ?_
  refine mz_puti S hG hM hS cf_4 fd_129 tw_164 dX5_copyFrom_13 k4 rfl rfl (fun H locs hM hS hz9 => ?_)
  refine lv_aload_n S.1 S.2.1 dX5_copyFrom_16 rfl (lv_at hl 0 rfl) ?_
  refine mz_aload_n (x := r1) S.1 S.2.1 dX5_copyFrom_17 rfl (lv_at hl 1 rfl) ?_
  refine mz_o0 e2 ?_
  refine mz_geti S hG hM cf_4 fd_130 tw_167 dX5_copyFrom_18 k3 ?_
  refine mz_puti S hG hM hS cf_4 fd_130 tw_167 dX5_copyFrom_21 k4 rfl rfl (fun H locs hM hS hz9 => ?_)
  refine lv_aload_n S.1 S.2.1 dX5_copyFrom_24 rfl (lv_at hl 0 rfl) ?_
  refine mz_aload_n (x := r1) S.1 S.2.1 dX5_copyFrom_25 rfl (lv_at hl 1 rfl) ?_
  refine mz_o0 e2 ?_
  refine mz_geti S hG hM cf_4 fd_131 tw_170 dX5_copyFrom_26 k3 ?_
  refine mz_puti S hG hM hS cf_4 fd_131 tw_170 dX5_copyFrom_29 k4 rfl rfl (fun H locs hM hS hz9 => ?_)
  refine lv_aload_n S.1 S.2.1 dX5_copyFrom_32 rfl (lv_at hl 0 rfl) ?_
  refine mz_aload_n (x := r1) S.1 S.2.1 dX5_copyFrom_33 rfl (lv_at hl 1 rfl) ?_
  refine mz_o0 e2 ?_
  refine mz_geti S hG hM cf_4 fd_132 tw_173 dX5_copyFrom_34 k3 ?_
  obtain ⟨f5, h⟩ := h
  refine mz_puti S hG hM hS cf_4 fd_132 tw_173 dX5_copyFrom_37 k4 (mz_nC f5) (mz_fC f5) (fun H locs hM hS hz9 => ?_)
  refine lv_aload_n S.1 S.2.1 dX5_copyFrom_40 rfl (lv_at hl 0 rfl) ?_
  refine mz_aload_n (x := r1) S.1 S.2.1 dX5_copyFrom_41 rfl (lv_at hl 1 rfl) ?_
  refine mz_o0 e2 ?_
  refine mz_geti S hG hM cf_4 fd_133 tw_176 dX5_copyFrom_42 k3 ?_
  refine mz_puti S hG hM hS cf_4 fd_133 tw_176 dX5_copyFrom_45 k4 rfl rfl (fun H locs hM hS hz9 => ?_)
  exact mz_vret S hr hlk hM hS (Nat.le_of_ble_eq_true rfl) (Nat.le_of_ble_eq_true rfl) dX5_copyFrom_48 ⟨rfl, h⟩
set_option maxRecDepth 100000 in
set_option maxHeartbeats 4000000 in
theorem c_X6_copyFrom {l : Launch} {G : mgT} {μ : mmT} {o : Nat} {r1 : Option Nat} {Q : mmT → Prop} (h : w_X6_copyFrom G μ o r1 Q) : MC G l yX6_copyFrom cX6_copyFrom 2 none { frames := 1, cells := 0, slots := 0, locals := 60 } [.ref o, va_rf r1] μ (pV Q) := by
  refine mz_MC (by decide +kernel) (by simp [lg_sl, mz_cat, mz_cr, mz_ci, mz_cl, mz_cf, mz_cd, mz_cn]) (fun p e s m args below meth c S hG hr hlk hnm => ?_)
  intro H locs ls hM hS hl
  have hl : lv_has ls 2 [(0, .ref o), (1, va_rf r1)] := by simpa [lv_args, mz_cat, mz_cr, mz_ci, mz_cl, mz_cf, mz_cd, mz_cn] using hl
  unfold w_X6_copyFrom at h
  refine mz_aload_n (x := r1) S.1 S.2.1 dX6_copyFrom_0 rfl (lv_at hl 1 rfl) ?_
  obtain ⟨a1, e2, h⟩ := h
  refine mz_o0 e2 ?_
  obtain ⟨k3, h⟩ := h
  refine mz_getr S hG hM cf_5 fd_160 tw_102 dX6_copyFrom_1 k3 ?_
  refine lv_iconst (v := (nI 0)) S.1 S.2.1 dX6_copyFrom_4 (by decide) ?_
  refine lv_aload_n S.1 S.2.1 dX6_copyFrom_5 rfl (lv_at hl 0 rfl) ?_
  obtain ⟨k4, h⟩ := h
  refine mz_getr S hG hM cf_5 fd_160 tw_102 dX6_copyFrom_6 k4 ?_
  refine lv_iconst (v := (nI 0)) S.1 S.2.1 dX6_copyFrom_9 (by decide) ?_
  refine lv_bipush (v := (nI 8)) S.1 S.2.1 dX6_copyFrom_10 (by decide) ?_
  obtain ⟨a5, e6, h⟩ := h
  refine mz_o4 e6 ?_
  obtain ⟨k7, h⟩ := h
  obtain ⟨a8, e9, h⟩ := h
  refine mz_o2 e9 ?_
  obtain ⟨k10, h⟩ := h
  obtain ⟨b11, b12, h⟩ := h
  refine mz_copy S hG hM hS hl.1 tw_547 tw_549 tw_548 tw_23 k7 k10 (by decide) (by decide) (by decide) b11 b12 (Nat.le_of_ble_eq_true rfl) (Nat.le_of_ble_eq_true rfl) dX6_copyFrom_12 (fun H locs hM hS => ?_)
  refine mz_aload_n (x := r1) S.1 S.2.1 dX6_copyFrom_15 rfl (lv_at hl 1 rfl) ?_
  refine mz_o0 e2 ?_
  refine mz_getr S hG hM cf_5 fd_161 tw_104 dX6_copyFrom_16 k3 ?_
  refine lv_iconst (v := (nI 0)) S.1 S.2.1 dX6_copyFrom_19 (by decide) ?_
  refine lv_aload_n S.1 S.2.1 dX6_copyFrom_20 rfl (lv_at hl 0 rfl) ?_
  refine mz_getr S hG hM cf_5 fd_161 tw_104 dX6_copyFrom_21 k4 ?_
  refine lv_iconst (v := (nI 0)) S.1 S.2.1 dX6_copyFrom_24 (by decide) ?_
  refine lv_bipush (v := (nI 8)) S.1 S.2.1 dX6_copyFrom_25 (by decide) ?_
  obtain ⟨a13, e14, h⟩ := h
  refine mz_o4 e14 ?_
  obtain ⟨k15, h⟩ := h
  obtain ⟨a16, e17, h⟩ := h
  refine mz_o2 e17 ?_
  obtain ⟨k18, h⟩ := h
  obtain ⟨b19, b20, h⟩ := h
  refine mz_copy S hG hM hS hl.1 tw_547 tw_549 tw_548 tw_23 k15 k18 (by decide) (by decide) (by decide) b19 b20 (Nat.le_of_ble_eq_true rfl) (Nat.le_of_ble_eq_true rfl) dX6_copyFrom_27 (fun H locs hM hS => ?_)
  refine lv_aload_n S.1 S.2.1 dX6_copyFrom_30 rfl (lv_at hl 0 rfl) ?_
  refine mz_aload_n (x := r1) S.1 S.2.1 dX6_copyFrom_31 rfl (lv_at hl 1 rfl) ?_
  refine mz_o0 e2 ?_
  refine mz_geti S hG hM cf_5 fd_162 tw_105 dX6_copyFrom_32 k3 ?_
  refine mz_puti S hG hM hS cf_5 fd_162 tw_105 dX6_copyFrom_35 k4 rfl rfl (fun H locs hM hS hz9 => ?_)
  refine lv_aload_n S.1 S.2.1 dX6_copyFrom_38 rfl (lv_at hl 0 rfl) ?_
  refine mz_aload_n (x := r1) S.1 S.2.1 dX6_copyFrom_39 rfl (lv_at hl 1 rfl) ?_
  refine mz_o0 e2 ?_
  refine mz_geti S hG hM cf_5 fd_163 tw_108 dX6_copyFrom_40 k3 ?_
  refine mz_puti S hG hM hS cf_5 fd_163 tw_108 dX6_copyFrom_43 k4 rfl rfl (fun H locs hM hS hz9 => ?_)
  refine lv_aload_n S.1 S.2.1 dX6_copyFrom_46 rfl (lv_at hl 0 rfl) ?_
  refine mz_aload_n (x := r1) S.1 S.2.1 dX6_copyFrom_47 rfl (lv_at hl 1 rfl) ?_
  refine mz_o0 e2 ?_
  refine mz_geti S hG hM cf_5 fd_164 tw_111 dX6_copyFrom_48 k3 ?_
  refine mz_puti S hG hM hS cf_5 fd_164 tw_111 dX6_copyFrom_51 k4 rfl rfl (fun H locs hM hS hz9 => ?_)
  refine lv_aload_n S.1 S.2.1 dX6_copyFrom_54 rfl (lv_at hl 0 rfl) ?_
  refine mz_aload_n (x := r1) S.1 S.2.1 dX6_copyFrom_55 rfl (lv_at hl 1 rfl) ?_
  refine mz_o0 e2 ?_
  refine mz_geti S hG hM cf_5 fd_165 tw_113 dX6_copyFrom_56 k3 ?_
  refine mz_puti S hG hM hS cf_5 fd_165 tw_113 dX6_copyFrom_59 k4 rfl rfl (fun H locs hM hS hz9 => ?_)
  refine lv_aload_n S.1 S.2.1 dX6_copyFrom_62 rfl (lv_at hl 0 rfl) ?_
  refine mz_aload_n (x := r1) S.1 S.2.1 dX6_copyFrom_63 rfl (lv_at hl 1 rfl) ?_
  refine mz_o0 e2 ?_
  refine mz_geti S hG hM cf_5 fd_166 tw_116 dX6_copyFrom_64 k3 ?_
  refine mz_puti S hG hM hS cf_5 fd_166 tw_116 dX6_copyFrom_67 k4 rfl rfl (fun H locs hM hS hz9 => ?_)
  exact mz_vret S hr hlk hM hS (Nat.le_of_ble_eq_true rfl) (Nat.le_of_ble_eq_true rfl) dX6_copyFrom_70 ⟨rfl, h⟩
set_option maxRecDepth 100000 in
set_option maxHeartbeats 4000000 in
theorem c_X8_copyFrom {l : Launch} {G : mgT} {μ : mmT} {o : Nat} {r1 : Option Nat} {Q : mmT → Prop} (h : w_X8_copyFrom G μ o r1 Q) : MC G l yX8_copyFrom cX8_copyFrom 3 none { frames := 2, cells := 0, slots := 0, locals := 81 } [.ref o, va_rf r1] μ (pV Q) := by
  refine mz_MC (by decide +kernel) (by simp [lg_sl, mz_cat, mz_cr, mz_ci, mz_cl, mz_cf, mz_cd, mz_cn]) (fun p e s m args below meth c S hG hr hlk hnm => ?_)
  have hB59 : ∀ (n : Nat) (r1 : Option Nat) (x2 : Int32) (μ : mmT) (H : Heap) (locs : List Loc) (ls : Array Slot), Mm G μ H → va_S (Ah G) s.heap H locs → lv_has ls 3 [(0, .ref o), (1, va_rf r1), (2, .int x2)] → w_X8_copyFrom_l59 G o Q  n r1 x2 μ → W p l e { frames := 2, cells := 0, slots := 0, locals := 81 } s m args below meth c H locs (0) (0) (MQ below (mQ G (pV Q)) args s 0 0 (Ah G)) (F0 m 59 ls []) := by
    intro  n
    induction n with
    | zero =>
      intro r1 x2 μ H locs ls hM hS hl h
      exact False.elim h
    | succ n ih =>
      intro r1 x2 μ H locs ls hM hS hl h
      have h : w_X8_copyFrom_b59 G o Q  (w_X8_copyFrom_l59 G o Q  n) r1 x2 μ := h
      unfold w_X8_copyFrom_b59 at h
      refine lv_iload_n S.1 S.2.1 dX8_copyFrom_59 rfl (lv_at hl 2 rfl) ?_
      refine lv_bipush (v := (nI 16)) S.1 S.2.1 dX8_copyFrom_60 (by decide) ?_
      refine lv_icmp_ge (tgt := 86) S.1 S.2.1 dX8_copyFrom_62 (by decide) (fun c3 => ?_) (fun c3 => ?_)
      · have h := h.1 c3
        refine lv_aload_n S.1 S.2.1 dX8_copyFrom_86 rfl (lv_at hl 0 rfl) ?_
        obtain ⟨k4, h⟩ := h
        refine mz_getr S hG hM cf_7 fd_227 tw_196 dX8_copyFrom_87 k4 ?_
        refine mz_aload_n (x := r1) S.1 S.2.1 dX8_copyFrom_90 rfl (lv_at hl 1 rfl) ?_
        obtain ⟨a5, e6, h⟩ := h
        refine mz_o0 e6 ?_
        obtain ⟨k7, h⟩ := h
        refine mz_getr S hG hM cf_7 fd_227 tw_196 dX8_copyFrom_91 k7 ?_
        obtain ⟨a8, e9, h⟩ := h
        refine mz_o1 e9 ?_
        obtain ⟨k10, h⟩ := h
        refine mz_V S hG hM hS cf_8 k10 (As := [va_rf (mR μ 227 a5)]) (rest := []) (c_X9_copyFrom h) yf_X9_copyFrom tw_558 tw_559 tw_560 ⟨Nat.le_of_ble_eq_true rfl, Nat.le_of_ble_eq_true rfl⟩ ⟨(Nat.le_of_ble_eq_true rfl), (Nat.le_of_ble_eq_true rfl)⟩ rfl hl.1 rfl (Nat.le_of_ble_eq_true rfl) dX8_copyFrom_94 (fun v9 μ11 H locs hp hM hS => ?_)
        obtain ⟨rfl, h⟩ := hp
        refine W.cs (cells' := 0) (slots' := 0) rfl rfl ?_
        refine lv_aload_n S.1 S.2.1 dX8_copyFrom_97 rfl (lv_at hl 0 rfl) ?_
        refine mz_aload_n (x := r1) S.1 S.2.1 dX8_copyFrom_98 rfl (lv_at hl 1 rfl) ?_
        refine mz_o0 e6 ?_
        obtain ⟨k12, h⟩ := h
        refine mz_geti S hG hM cf_7 fd_228 tw_198 dX8_copyFrom_99 k12 ?_
        obtain ⟨k13, h⟩ := h
        refine mz_puti S hG hM hS cf_7 fd_228 tw_198 dX8_copyFrom_102 k13 rfl rfl (fun H locs hM hS hz9 => ?_)
        refine lv_aload_n S.1 S.2.1 dX8_copyFrom_105 rfl (lv_at hl 0 rfl) ?_
        refine mz_aload_n (x := r1) S.1 S.2.1 dX8_copyFrom_106 rfl (lv_at hl 1 rfl) ?_
        refine mz_o0 e6 ?_
        refine mz_geti S hG hM cf_7 fd_229 tw_200 dX8_copyFrom_107 k12 ?_
        refine mz_puti S hG hM hS cf_7 fd_229 tw_200 dX8_copyFrom_110 k13 rfl rfl (fun H locs hM hS hz9 => ?_)
        refine lv_aload_n S.1 S.2.1 dX8_copyFrom_113 rfl (lv_at hl 0 rfl) ?_
        refine mz_aload_n (x := r1) S.1 S.2.1 dX8_copyFrom_114 rfl (lv_at hl 1 rfl) ?_
        refine mz_o0 e6 ?_
        refine mz_geti S hG hM cf_7 fd_230 tw_202 dX8_copyFrom_115 k12 ?_
        refine mz_puti S hG hM hS cf_7 fd_230 tw_202 dX8_copyFrom_118 k13 rfl rfl (fun H locs hM hS hz9 => ?_)
        refine lv_aload_n S.1 S.2.1 dX8_copyFrom_121 rfl (lv_at hl 0 rfl) ?_
        refine mz_aload_n (x := r1) S.1 S.2.1 dX8_copyFrom_122 rfl (lv_at hl 1 rfl) ?_
        refine mz_o0 e6 ?_
        refine mz_geti S hG hM cf_7 fd_231 tw_204 dX8_copyFrom_123 k12 ?_
        refine mz_puti S hG hM hS cf_7 fd_231 tw_204 dX8_copyFrom_126 k13 rfl rfl (fun H locs hM hS hz9 => ?_)
        refine lv_aload_n S.1 S.2.1 dX8_copyFrom_129 rfl (lv_at hl 0 rfl) ?_
        refine mz_aload_n (x := r1) S.1 S.2.1 dX8_copyFrom_130 rfl (lv_at hl 1 rfl) ?_
        refine mz_o0 e6 ?_
        refine mz_geti S hG hM cf_7 fd_232 tw_206 dX8_copyFrom_131 k12 ?_
        refine mz_puti S hG hM hS cf_7 fd_232 tw_206 dX8_copyFrom_134 k13 rfl rfl (fun H locs hM hS hz9 => ?_)
        exact mz_vret S hr hlk hM hS (Nat.le_of_ble_eq_true rfl) (Nat.le_of_ble_eq_true rfl) dX8_copyFrom_137 ⟨rfl, h⟩
      · have h := h.2 c3
        refine lv_aload_n S.1 S.2.1 dX8_copyFrom_65 rfl (lv_at hl 0 rfl) ?_
        obtain ⟨k14, h⟩ := h
        refine mz_getr S hG hM cf_7 fd_226 tw_194 dX8_copyFrom_66 k14 ?_
        refine lv_iload_n S.1 S.2.1 dX8_copyFrom_69 rfl (lv_at hl 2 rfl) ?_
        obtain ⟨a15, e16, h⟩ := h
        refine mz_o1 e16 ?_
        obtain ⟨k17, h⟩ := h
        obtain ⟨b18, h⟩ := h
        refine mz_aald (j := 7) S hG hM dX8_copyFrom_70 (by decide) rfl k17 b18 ?_
        refine mz_aload_n (x := r1) S.1 S.2.1 dX8_copyFrom_71 rfl (lv_at hl 1 rfl) ?_
        obtain ⟨a19, e20, h⟩ := h
        refine mz_o0 e20 ?_
        obtain ⟨k21, h⟩ := h
        refine mz_getr S hG hM cf_7 fd_226 tw_194 dX8_copyFrom_72 k21 ?_
        refine lv_iload_n S.1 S.2.1 dX8_copyFrom_75 rfl (lv_at hl 2 rfl) ?_
        obtain ⟨a22, e23, h⟩ := h
        refine mz_o1 e23 ?_
        obtain ⟨k24, h⟩ := h
        obtain ⟨b25, h⟩ := h
        refine mz_aald (j := 7) S hG hM dX8_copyFrom_76 (by decide) rfl k24 b25 ?_
        obtain ⟨a26, e27, h⟩ := h
        refine mz_o1 e27 ?_
        obtain ⟨k28, h⟩ := h
        refine mz_V S hG hM hS cf_4 k28 (As := [va_rf (mB μ a22 x2.toNatClampNeg)]) (rest := []) (c_X5_copyFrom h) yf_X5_copyFrom tw_554 tw_555 tw_556 ⟨Nat.le_of_ble_eq_true rfl, Nat.le_of_ble_eq_true rfl⟩ ⟨(Nat.le_of_ble_eq_true rfl), (Nat.le_of_ble_eq_true rfl)⟩ rfl hl.1 rfl (Nat.le_of_ble_eq_true rfl) dX8_copyFrom_77 (fun v9 μ29 H locs hp hM hS => ?_)
        obtain ⟨rfl, h⟩ := hp
        refine W.cs (cells' := 0) (slots' := 0) rfl rfl ?_
        refine lv_iinc (v := (x2 + nI 1)) (lv' := [(2, .int (x2 + nI 1)), (0, .ref o), (1, va_rf r1)]) S.1 S.2.1 dX8_copyFrom_80 hl (k := 2) rfl rfl (by decide) (by simp [List.filter, mz_cat]) (fun ls hl => ?_)
        refine lv_goto (tgt := 59) S.1 S.2.1 dX8_copyFrom_83 (by decide) ?_
        exact ih r1 (x2 + nI 1) μ29 H locs ls hM hS (lv_sub hl [1, 2, 0] rfl) h
  have hB31 : ∀ (n : Nat) (r1 : Option Nat) (x2 : Int32) (μ : mmT) (H : Heap) (locs : List Loc) (ls : Array Slot), Mm G μ H → va_S (Ah G) s.heap H locs → lv_has ls 3 [(0, .ref o), (1, va_rf r1), (2, .int x2)] → w_X8_copyFrom_l31 G o Q  n r1 x2 μ → W p l e { frames := 2, cells := 0, slots := 0, locals := 81 } s m args below meth c H locs (0) (0) (MQ below (mQ G (pV Q)) args s 0 0 (Ah G)) (F0 m 31 ls []) := by
    intro  n
    induction n with
    | zero =>
      intro r1 x2 μ H locs ls hM hS hl h
      exact False.elim h
    | succ n ih =>
      intro r1 x2 μ H locs ls hM hS hl h
      have h : w_X8_copyFrom_b31 G o Q  (w_X8_copyFrom_l31 G o Q  n) r1 x2 μ := h
      unfold w_X8_copyFrom_b31 at h
      refine lv_iload_n S.1 S.2.1 dX8_copyFrom_31 rfl (lv_at hl 2 rfl) ?_
      refine lv_iconst (v := (nI 4)) S.1 S.2.1 dX8_copyFrom_32 (by decide) ?_
      refine lv_icmp_ge (tgt := 57) S.1 S.2.1 dX8_copyFrom_33 (by decide) (fun c2 => ?_) (fun c2 => ?_)
      · have h := h.1 c2
        refine lv_iconst (v := (nI 0)) S.1 S.2.1 dX8_copyFrom_57 (by decide) ?_
        refine lv_istore_n (i := 2) (lv' := [(2, .int (nI 0)), (0, .ref o), (1, va_rf r1)]) S.1 S.2.1 dX8_copyFrom_58 rfl hl (by decide) (by simp [List.filter, mz_cat]) (fun ls hl => ?_)
        obtain ⟨n9, h⟩ := h
        exact hB59  n9 r1 (nI 0) μ H locs ls hM hS (lv_sub hl [1, 2, 0] rfl) h
      · have h := h.2 c2
        refine lv_aload_n S.1 S.2.1 dX8_copyFrom_36 rfl (lv_at hl 0 rfl) ?_
        obtain ⟨k30, h⟩ := h
        refine mz_getr S hG hM cf_7 fd_225 tw_193 dX8_copyFrom_37 k30 ?_
        refine lv_iload_n S.1 S.2.1 dX8_copyFrom_40 rfl (lv_at hl 2 rfl) ?_
        obtain ⟨a31, e32, h⟩ := h
        refine mz_o1 e32 ?_
        obtain ⟨k33, h⟩ := h
        obtain ⟨b34, h⟩ := h
        refine mz_aald (j := 6) S hG hM dX8_copyFrom_41 (by decide) rfl k33 b34 ?_
        refine mz_aload_n (x := r1) S.1 S.2.1 dX8_copyFrom_42 rfl (lv_at hl 1 rfl) ?_
        obtain ⟨a35, e36, h⟩ := h
        refine mz_o0 e36 ?_
        obtain ⟨k37, h⟩ := h
        refine mz_getr S hG hM cf_7 fd_225 tw_193 dX8_copyFrom_43 k37 ?_
        refine lv_iload_n S.1 S.2.1 dX8_copyFrom_46 rfl (lv_at hl 2 rfl) ?_
        obtain ⟨a38, e39, h⟩ := h
        refine mz_o1 e39 ?_
        obtain ⟨k40, h⟩ := h
        obtain ⟨b41, h⟩ := h
        refine mz_aald (j := 6) S hG hM dX8_copyFrom_47 (by decide) rfl k40 b41 ?_
        obtain ⟨a42, e43, h⟩ := h
        refine mz_o1 e43 ?_
        obtain ⟨k44, h⟩ := h
        refine mz_V S hG hM hS cf_2 k44 (As := [va_rf (mB μ a38 x2.toNatClampNeg)]) (rest := []) (c_X2_copyFrom h) yf_X2_copyFrom tw_550 tw_551 tw_552 ⟨Nat.le_of_ble_eq_true rfl, Nat.le_of_ble_eq_true rfl⟩ ⟨(Nat.le_of_ble_eq_true rfl), (Nat.le_of_ble_eq_true rfl)⟩ rfl hl.1 rfl (Nat.le_of_ble_eq_true rfl) dX8_copyFrom_48 (fun v9 μ45 H locs hp hM hS => ?_)
        obtain ⟨rfl, h⟩ := hp
        refine W.cs (cells' := 0) (slots' := 0) rfl rfl ?_
        refine lv_iinc (v := (x2 + nI 1)) (lv' := [(2, .int (x2 + nI 1)), (0, .ref o), (1, va_rf r1)]) S.1 S.2.1 dX8_copyFrom_51 hl (k := 2) rfl rfl (by decide) (by simp [List.filter, mz_cat]) (fun ls hl => ?_)
        refine lv_goto (tgt := 31) S.1 S.2.1 dX8_copyFrom_54 (by decide) ?_
        exact ih r1 (x2 + nI 1) μ45 H locs ls hM hS (lv_sub hl [1, 2, 0] rfl) h
  have hB2 : ∀ (n : Nat) (r1 : Option Nat) (x2 : Int32) (μ : mmT) (H : Heap) (locs : List Loc) (ls : Array Slot), Mm G μ H → va_S (Ah G) s.heap H locs → lv_has ls 3 [(0, .ref o), (1, va_rf r1), (2, .int x2)] → w_X8_copyFrom_l2 G o Q  n r1 x2 μ → W p l e { frames := 2, cells := 0, slots := 0, locals := 81 } s m args below meth c H locs (0) (0) (MQ below (mQ G (pV Q)) args s 0 0 (Ah G)) (F0 m 2 ls []) := by
    intro  n
    induction n with
    | zero =>
      intro r1 x2 μ H locs ls hM hS hl h
      exact False.elim h
    | succ n ih =>
      intro r1 x2 μ H locs ls hM hS hl h
      have h : w_X8_copyFrom_b2 G o Q  (w_X8_copyFrom_l2 G o Q  n) r1 x2 μ := h
      unfold w_X8_copyFrom_b2 at h
      refine lv_iload_n S.1 S.2.1 dX8_copyFrom_2 rfl (lv_at hl 2 rfl) ?_
      refine lv_bipush (v := (nI 6)) S.1 S.2.1 dX8_copyFrom_3 (by decide) ?_
      refine lv_icmp_ge (tgt := 29) S.1 S.2.1 dX8_copyFrom_5 (by decide) (fun c1 => ?_) (fun c1 => ?_)
      · have h := h.1 c1
        refine lv_iconst (v := (nI 0)) S.1 S.2.1 dX8_copyFrom_29 (by decide) ?_
        refine lv_istore_n (i := 2) (lv' := [(2, .int (nI 0)), (0, .ref o), (1, va_rf r1)]) S.1 S.2.1 dX8_copyFrom_30 rfl hl (by decide) (by simp [List.filter, mz_cat]) (fun ls hl => ?_)
        obtain ⟨n9, h⟩ := h
        exact hB31  n9 r1 (nI 0) μ H locs ls hM hS (lv_sub hl [1, 2, 0] rfl) h
      · have h := h.2 c1
        refine lv_aload_n S.1 S.2.1 dX8_copyFrom_8 rfl (lv_at hl 0 rfl) ?_
        obtain ⟨k46, h⟩ := h
        refine mz_getr S hG hM cf_7 fd_224 tw_192 dX8_copyFrom_9 k46 ?_
        refine lv_iload_n S.1 S.2.1 dX8_copyFrom_12 rfl (lv_at hl 2 rfl) ?_
        obtain ⟨a47, e48, h⟩ := h
        refine mz_o1 e48 ?_
        obtain ⟨k49, h⟩ := h
        obtain ⟨b50, h⟩ := h
        refine mz_aald (j := 8) S hG hM dX8_copyFrom_13 (by decide) rfl k49 b50 ?_
        refine mz_aload_n (x := r1) S.1 S.2.1 dX8_copyFrom_14 rfl (lv_at hl 1 rfl) ?_
        obtain ⟨a51, e52, h⟩ := h
        refine mz_o0 e52 ?_
        obtain ⟨k53, h⟩ := h
        refine mz_getr S hG hM cf_7 fd_224 tw_192 dX8_copyFrom_15 k53 ?_
        refine lv_iload_n S.1 S.2.1 dX8_copyFrom_18 rfl (lv_at hl 2 rfl) ?_
        obtain ⟨a54, e55, h⟩ := h
        refine mz_o1 e55 ?_
        obtain ⟨k56, h⟩ := h
        obtain ⟨b57, h⟩ := h
        refine mz_aald (j := 8) S hG hM dX8_copyFrom_19 (by decide) rfl k56 b57 ?_
        obtain ⟨a58, e59, h⟩ := h
        refine mz_o1 e59 ?_
        obtain ⟨k60, h⟩ := h
        refine mz_V S hG hM hS cf_5 k60 (As := [va_rf (mB μ a54 x2.toNatClampNeg)]) (rest := []) (c_X6_copyFrom h) yf_X6_copyFrom tw_543 tw_544 tw_545 ⟨Nat.le_of_ble_eq_true rfl, Nat.le_of_ble_eq_true rfl⟩ ⟨(Nat.le_of_ble_eq_true rfl), (Nat.le_of_ble_eq_true rfl)⟩ rfl hl.1 rfl (Nat.le_of_ble_eq_true rfl) dX8_copyFrom_20 (fun v9 μ61 H locs hp hM hS => ?_)
        obtain ⟨rfl, h⟩ := hp
        refine W.cs (cells' := 0) (slots' := 0) rfl rfl ?_
        refine lv_iinc (v := (x2 + nI 1)) (lv' := [(2, .int (x2 + nI 1)), (0, .ref o), (1, va_rf r1)]) S.1 S.2.1 dX8_copyFrom_23 hl (k := 2) rfl rfl (by decide) (by simp [List.filter, mz_cat]) (fun ls hl => ?_)
        refine lv_goto (tgt := 2) S.1 S.2.1 dX8_copyFrom_26 (by decide) ?_
        exact ih r1 (x2 + nI 1) μ61 H locs ls hM hS (lv_sub hl [1, 2, 0] rfl) h
  intro H locs ls hM hS hl
  have hl : lv_has ls 3 [(0, .ref o), (1, va_rf r1)] := by simpa [lv_args, mz_cat, mz_cr, mz_ci, mz_cl, mz_cf, mz_cd, mz_cn] using hl
  unfold w_X8_copyFrom at h
  refine lv_iconst (v := (nI 0)) S.1 S.2.1 dX8_copyFrom_0 (by decide) ?_
  refine lv_istore_n (i := 2) (lv' := [(2, .int (nI 0)), (0, .ref o), (1, va_rf r1)]) S.1 S.2.1 dX8_copyFrom_1 rfl hl (by decide) (by simp [List.filter, mz_cat]) (fun ls hl => ?_)
  obtain ⟨n9, h⟩ := h
  exact hB2  n9 r1 (nI 0) μ H locs ls hM hS (lv_sub hl [1, 2, 0] rfl) h
set_option maxRecDepth 100000 in
set_option maxHeartbeats 4000000 in
theorem c_X4_remember {l : Launch} {G : mgT} {μ : mmT} {o : Nat} {r1 : Option Nat} {Q : mmT → Prop} (h : w_X4_remember G μ o r1 Q) : MC G l yX4_remember cX4_remember 2 none { frames := 3, cells := 0, slots := 0, locals := 103 } [.ref o, va_rf r1] μ (pV Q) := by
  refine mz_MC (by decide +kernel) (by simp [lg_sl, mz_cat, mz_cr, mz_ci, mz_cl, mz_cf, mz_cd, mz_cn]) (fun p e s m args below meth c S hG hr hlk hnm => ?_)
  have hB45 : ∀ (μ : mmT) (H : Heap) (locs : List Loc) (ls : Array Slot), Mm G μ H → va_S (Ah G) s.heap H locs → lv_has ls 2 [(0, .ref o)] → w_X4_remember_b45 G o Q  μ → W p l e { frames := 3, cells := 0, slots := 0, locals := 103 } s m args below meth c H locs (0) (0) (MQ below (mQ G (pV Q)) args s 0 0 (Ah G)) (F0 m 45 ls []) := by
    intro  μ H locs ls hM hS hl h
    unfold w_X4_remember_b45 at h
    exact mz_vret S hr hlk hM hS (Nat.le_of_ble_eq_true rfl) (Nat.le_of_ble_eq_true rfl) dX4_remember_45 ⟨rfl, h⟩
  intro H locs ls hM hS hl
  have hl : lv_has ls 2 [(0, .ref o), (1, va_rf r1)] := by simpa [lv_args, mz_cat, mz_cr, mz_ci, mz_cl, mz_cf, mz_cd, mz_cn] using hl
  unfold w_X4_remember at h
  refine lv_aload_n S.1 S.2.1 dX4_remember_0 rfl (lv_at hl 0 rfl) ?_
  obtain ⟨k1, h⟩ := h
  refine mz_getr S hG hM cf_3 fd_96 tw_236 dX4_remember_1 k1 ?_
  refine lv_aload_n S.1 S.2.1 dX4_remember_4 rfl (lv_at hl 0 rfl) ?_
  refine mz_geti S hG hM cf_3 fd_97 tw_237 dX4_remember_5 k1 ?_
  obtain ⟨a2, e3, h⟩ := h
  refine mz_o1 e3 ?_
  obtain ⟨k4, h⟩ := h
  obtain ⟨b5, h⟩ := h
  refine mz_aald (j := 9) S hG hM dX4_remember_8 (by decide) rfl k4 b5 ?_
  refine mz_aload_n (x := r1) S.1 S.2.1 dX4_remember_9 rfl (lv_at hl 1 rfl) ?_
  obtain ⟨a6, e7, h⟩ := h
  refine mz_o1 e7 ?_
  obtain ⟨k8, h⟩ := h
  refine mz_V S hG hM hS cf_7 k8 (As := [va_rf r1]) (rest := []) (c_X8_copyFrom h) yf_X8_copyFrom tw_688 tw_540 tw_541 ⟨Nat.le_of_ble_eq_true rfl, Nat.le_of_ble_eq_true rfl⟩ ⟨(Nat.le_of_ble_eq_true rfl), (Nat.le_of_ble_eq_true rfl)⟩ rfl hl.1 rfl (Nat.le_of_ble_eq_true rfl) dX4_remember_10 (fun v9 μ9 H locs hp hM hS => ?_)
  obtain ⟨rfl, h⟩ := hp
  refine W.cs (cells' := 0) (slots' := 0) rfl rfl ?_
  refine lv_aload_n S.1 S.2.1 dX4_remember_13 rfl (lv_at hl 0 rfl) ?_
  refine lv_aload_n S.1 S.2.1 dX4_remember_14 rfl (lv_at hl 0 rfl) ?_
  obtain ⟨k10, h⟩ := h
  refine mz_geti S hG hM cf_3 fd_97 tw_237 dX4_remember_15 k10 ?_
  refine lv_iconst (v := (nI 1)) S.1 S.2.1 dX4_remember_18 (by decide) ?_
  refine lv_iadd S.1 S.2.1 dX4_remember_19 ?_
  refine lv_bipush (v := (nI 8)) S.1 S.2.1 dX4_remember_20 (by decide) ?_
  refine lv_irem S.1 S.2.1 dX4_remember_22 (by decide) ?_
  refine mz_puti S hG hM hS cf_3 fd_97 tw_237 dX4_remember_23 k10 rfl rfl (fun H locs hM hS hz9 => ?_)
  refine lv_aload_n S.1 S.2.1 dX4_remember_26 rfl (lv_at hl 0 rfl) ?_
  refine mz_geti S hG hM cf_3 fd_98 tw_238 dX4_remember_27 k10 ?_
  refine lv_bipush (v := (nI 8)) S.1 S.2.1 dX4_remember_30 (by decide) ?_
  refine lv_icmp_ge (tgt := 45) S.1 S.2.1 dX4_remember_32 (by decide) (fun c12 => ?_) (fun c12 => ?_)
  · have h := h.1 c12
    exact hB45  (sI μ9 97 o (((mI μ9 97 o) + (nI 1)) - ((mI μ9 97 o) + (nI 1)) / (nI 8) * (nI 8))) H locs ls hM hS (lv_sub hl [0] rfl) h
  · have h := h.2 c12
    refine lv_aload_n S.1 S.2.1 dX4_remember_35 rfl (lv_at hl 0 rfl) ?_
    refine lv_dup S.1 S.2.1 dX4_remember_36 rfl ?_
    refine mz_geti S hG hM cf_3 fd_98 tw_238 dX4_remember_37 k10 ?_
    refine lv_iconst (v := (nI 1)) S.1 S.2.1 dX4_remember_40 (by decide) ?_
    refine lv_iadd S.1 S.2.1 dX4_remember_41 ?_
    refine mz_puti S hG hM hS cf_3 fd_98 tw_238 dX4_remember_42 k10 rfl rfl (fun H locs hM hS hz9 => ?_)
    exact hB45  (sI (sI μ9 97 o (((mI μ9 97 o) + (nI 1)) - ((mI μ9 97 o) + (nI 1)) / (nI 8) * (nI 8))) 98 o ((mI (sI μ9 97 o (((mI μ9 97 o) + (nI 1)) - ((mI μ9 97 o) + (nI 1)) / (nI 8) * (nI 8))) 98 o) + (nI 1))) H locs ls hM hS (lv_sub hl [0] rfl) h
set_option maxRecDepth 100000 in
set_option maxHeartbeats 4000000 in
theorem c_X4_takeBackInto {l : Launch} {G : mgT} {μ : mmT} {o : Nat} {r1 : Option Nat} {Q : mmT → Prop} (h : w_X4_takeBackInto G μ o r1 Q) : MC G l yX4_takeBackInto cX4_takeBackInto 2 none { frames := 3, cells := 0, slots := 0, locals := 103 } [.ref o, va_rf r1] μ (pV Q) := by
  refine mz_MC (by decide +kernel) (by simp [lg_sl, mz_cat, mz_cr, mz_ci, mz_cl, mz_cf, mz_cd, mz_cn]) (fun p e s m args below meth c S hG hr hlk hnm => ?_)
  intro H locs ls hM hS hl
  have hl : lv_has ls 2 [(0, .ref o), (1, va_rf r1)] := by simpa [lv_args, mz_cat, mz_cr, mz_ci, mz_cl, mz_cf, mz_cd, mz_cn] using hl
  unfold w_X4_takeBackInto at h
  refine lv_aload_n S.1 S.2.1 dX4_takeBackInto_0 rfl (lv_at hl 0 rfl) ?_
  refine lv_aload_n S.1 S.2.1 dX4_takeBackInto_1 rfl (lv_at hl 0 rfl) ?_
  obtain ⟨k1, h⟩ := h
  refine mz_geti S hG hM cf_3 fd_97 tw_237 dX4_takeBackInto_2 k1 ?_
  refine lv_bipush (v := (nI 8)) S.1 S.2.1 dX4_takeBackInto_5 (by decide) ?_
  refine lv_iadd S.1 S.2.1 dX4_takeBackInto_7 ?_
  refine lv_iconst (v := (nI 1)) S.1 S.2.1 dX4_takeBackInto_8 (by decide) ?_
  refine lv_isub S.1 S.2.1 dX4_takeBackInto_9 ?_
  refine lv_bipush (v := (nI 8)) S.1 S.2.1 dX4_takeBackInto_10 (by decide) ?_
  refine lv_irem S.1 S.2.1 dX4_takeBackInto_12 (by decide) ?_
  refine mz_puti S hG hM hS cf_3 fd_97 tw_237 dX4_takeBackInto_13 k1 rfl rfl (fun H locs hM hS hz9 => ?_)
  refine lv_aload_n S.1 S.2.1 dX4_takeBackInto_16 rfl (lv_at hl 0 rfl) ?_
  refine lv_dup S.1 S.2.1 dX4_takeBackInto_17 rfl ?_
  refine mz_geti S hG hM cf_3 fd_98 tw_238 dX4_takeBackInto_18 k1 ?_
  refine lv_iconst (v := (nI 1)) S.1 S.2.1 dX4_takeBackInto_21 (by decide) ?_
  refine lv_isub S.1 S.2.1 dX4_takeBackInto_22 ?_
  refine mz_puti S hG hM hS cf_3 fd_98 tw_238 dX4_takeBackInto_23 k1 rfl rfl (fun H locs hM hS hz9 => ?_)
  refine mz_aload_n (x := r1) S.1 S.2.1 dX4_takeBackInto_26 rfl (lv_at hl 1 rfl) ?_
  refine lv_aload_n S.1 S.2.1 dX4_takeBackInto_27 rfl (lv_at hl 0 rfl) ?_
  refine mz_getr S hG hM cf_3 fd_96 tw_236 dX4_takeBackInto_28 k1 ?_
  refine lv_aload_n S.1 S.2.1 dX4_takeBackInto_31 rfl (lv_at hl 0 rfl) ?_
  refine mz_geti S hG hM cf_3 fd_97 tw_237 dX4_takeBackInto_32 k1 ?_
  obtain ⟨a3, e4, h⟩ := h
  refine mz_o1 e4 ?_
  obtain ⟨k5, h⟩ := h
  obtain ⟨b6, h⟩ := h
  refine mz_aald (j := 9) S hG hM dX4_takeBackInto_35 (by decide) rfl k5 b6 ?_
  obtain ⟨a7, e8, h⟩ := h
  refine mz_o1 e8 ?_
  obtain ⟨k9, h⟩ := h
  refine mz_V S hG hM hS cf_7 k9 (As := [va_rf (mB (sI (sI μ 97 o ((((mI μ 97 o) + (nI 8)) - (nI 1)) - (((mI μ 97 o) + (nI 8)) - (nI 1)) / (nI 8) * (nI 8))) 98 o ((mI (sI μ 97 o ((((mI μ 97 o) + (nI 8)) - (nI 1)) - (((mI μ 97 o) + (nI 8)) - (nI 1)) / (nI 8) * (nI 8))) 98 o) - (nI 1))) a3 (mI (sI (sI μ 97 o ((((mI μ 97 o) + (nI 8)) - (nI 1)) - (((mI μ 97 o) + (nI 8)) - (nI 1)) / (nI 8) * (nI 8))) 98 o ((mI (sI μ 97 o ((((mI μ 97 o) + (nI 8)) - (nI 1)) - (((mI μ 97 o) + (nI 8)) - (nI 1)) / (nI 8) * (nI 8))) 98 o) - (nI 1))) 97 o).toNatClampNeg)]) (rest := []) (c_X8_copyFrom h) yf_X8_copyFrom tw_688 tw_540 tw_541 ⟨Nat.le_of_ble_eq_true rfl, Nat.le_of_ble_eq_true rfl⟩ ⟨(Nat.le_of_ble_eq_true rfl), (Nat.le_of_ble_eq_true rfl)⟩ rfl hl.1 rfl (Nat.le_of_ble_eq_true rfl) dX4_takeBackInto_36 (fun v9 μ10 H locs hp hM hS => ?_)
  obtain ⟨rfl, h⟩ := hp
  refine W.cs (cells' := 0) (slots' := 0) rfl rfl ?_
  exact mz_vret S hr hlk hM hS (Nat.le_of_ble_eq_true rfl) (Nat.le_of_ble_eq_true rfl) dX4_takeBackInto_39 ⟨rfl, h⟩
set_option maxRecDepth 100000 in
set_option maxHeartbeats 4000000 in
theorem c_X5_write {l : Launch} {G : mgT} {μ : mmT} {o : Nat} {x1 : Int32} {x2 : Int32} {x3 : Int32} {Q : mmT → Prop} (h : w_X5_write G μ o x1 x2 x3 Q) : MC G l yX5_write cX5_write 4 none { frames := 0, cells := 0, slots := 0, locals := 0 } [.ref o, .int x1, .int x2, .int x3] μ (pV Q) := by
  refine mz_MC (by decide +kernel) (Nat.le_of_ble_eq_true rfl) (fun p e s m args below meth c S hG hr hlk hnm => ?_)
  intro H locs ls hM hS hl
  have hl : lv_has ls 4 [(0, .ref o), (1, .int x1), (2, .int x2), (3, .int x3)] := hl
  unfold w_X5_write at h
  refine lv_aload_n S.1 S.2.1 dX5_write_0 rfl (lv_at hl 0 rfl) ?_
  refine lv_iload_n S.1 S.2.1 dX5_write_1 rfl (lv_at hl 1 rfl) ?_
  obtain ⟨k1, h⟩ := h
  refine mz_puti S hG hM hS cf_4 fd_128 tw_161 dX5_write_2 k1 rfl rfl (fun H locs hM hS hz9 => ?_)
  refine lv_aload_n S.1 S.2.1 dX5_write_5 rfl (lv_at hl 0 rfl) ?_
  refine lv_iload_n S.1 S.2.1 dX5_write_6 rfl (lv_at hl 2 rfl) ?_
  refine mz_puti S hG hM hS cf_4 fd_129 tw_164 dX5_write_7 k1 rfl rfl (fun H locs hM hS hz9 => ?_)
  refine lv_aload_n S.1 S.2.1 dX5_write_10 rfl (lv_at hl 0 rfl) ?_
  refine lv_iload_n S.1 S.2.1 dX5_write_11 rfl (lv_at hl 3 rfl) ?_
  refine mz_puti S hG hM hS cf_4 fd_130 tw_167 dX5_write_12 k1 rfl rfl (fun H locs hM hS hz9 => ?_)
  refine lv_aload_n S.1 S.2.1 dX5_write_15 rfl (lv_at hl 0 rfl) ?_
  refine lv_iconst (v := (nI 0)) S.1 S.2.1 dX5_write_16 (by decide) ?_
  refine mz_puti S hG hM hS cf_4 fd_131 tw_170 dX5_write_17 k1 rfl rfl (fun H locs hM hS hz9 => ?_)
  refine lv_aload_n S.1 S.2.1 dX5_write_20 rfl (lv_at hl 0 rfl) ?_
  refine lv_bipush (v := (nI 119)) S.1 S.2.1 dX5_write_21 (by decide) ?_
  refine mz_puti S hG hM hS cf_4 fd_132 tw_173 dX5_write_23 k1 (mz_nC ⟨119, by decide, rfl⟩) (mz_fC ⟨119, by decide, rfl⟩) (fun H locs hM hS hz9 => ?_)
  refine lv_aload_n S.1 S.2.1 dX5_write_26 rfl (lv_at hl 0 rfl) ?_
  refine lv_iconst (v := (nI 0)) S.1 S.2.1 dX5_write_27 (by decide) ?_
  refine mz_puti S hG hM hS cf_4 fd_133 tw_176 dX5_write_28 k1 rfl rfl (fun H locs hM hS hz9 => ?_)
  exact mz_vret S hr hlk hM hS (Nat.le_of_ble_eq_true rfl) (Nat.le_of_ble_eq_true rfl) dX5_write_31 ⟨rfl, h⟩
set_option maxRecDepth 100000 in
set_option maxHeartbeats 4000000 in
theorem c_X6_open {l : Launch} {G : mgT} {μ : mmT} {o : Nat} {x1 : Int32} {x2 : Int32} {Q : mmT → Prop} (h : w_X6_open G μ o x1 x2 Q) : MC G l yX6_open cX6_open 3 none { frames := 0, cells := 0, slots := 0, locals := 0 } [.ref o, .int x1, .int x2] μ (pV Q) := by
  refine mz_MC (by decide +kernel) (Nat.le_of_ble_eq_true rfl) (fun p e s m args below meth c S hG hr hlk hnm => ?_)
  intro H locs ls hM hS hl
  have hl : lv_has ls 3 [(0, .ref o), (1, .int x1), (2, .int x2)] := hl
  unfold w_X6_open at h
  refine lv_aload_n S.1 S.2.1 dX6_open_0 rfl (lv_at hl 0 rfl) ?_
  refine lv_iload_n S.1 S.2.1 dX6_open_1 rfl (lv_at hl 1 rfl) ?_
  obtain ⟨k1, h⟩ := h
  refine mz_puti S hG hM hS cf_5 fd_162 tw_105 dX6_open_2 k1 rfl rfl (fun H locs hM hS hz9 => ?_)
  refine lv_aload_n S.1 S.2.1 dX6_open_5 rfl (lv_at hl 0 rfl) ?_
  refine lv_iload_n S.1 S.2.1 dX6_open_6 rfl (lv_at hl 2 rfl) ?_
  refine mz_puti S hG hM hS cf_5 fd_163 tw_108 dX6_open_7 k1 rfl rfl (fun H locs hM hS hz9 => ?_)
  refine lv_aload_n S.1 S.2.1 dX6_open_10 rfl (lv_at hl 0 rfl) ?_
  refine lv_iconst (v := (nI 0)) S.1 S.2.1 dX6_open_11 (by decide) ?_
  refine mz_puti S hG hM hS cf_5 fd_164 tw_111 dX6_open_12 k1 rfl rfl (fun H locs hM hS hz9 => ?_)
  refine lv_aload_n S.1 S.2.1 dX6_open_15 rfl (lv_at hl 0 rfl) ?_
  refine lv_iconst (v := (nI 0)) S.1 S.2.1 dX6_open_16 (by decide) ?_
  refine mz_puti S hG hM hS cf_5 fd_165 tw_113 dX6_open_17 k1 rfl rfl (fun H locs hM hS hz9 => ?_)
  refine lv_aload_n S.1 S.2.1 dX6_open_20 rfl (lv_at hl 0 rfl) ?_
  refine lv_iconst (v := (nI 0)) S.1 S.2.1 dX6_open_21 (by decide) ?_
  refine mz_puti S hG hM hS cf_5 fd_166 tw_116 dX6_open_22 k1 rfl rfl (fun H locs hM hS hz9 => ?_)
  exact mz_vret S hr hlk hM hS (Nat.le_of_ble_eq_true rfl) (Nat.le_of_ble_eq_true rfl) dX6_open_25 ⟨rfl, h⟩
set_option maxRecDepth 100000 in
set_option maxHeartbeats 4000000 in
theorem c_X6_hasRoom {l : Launch} {G : mgT} {μ : mmT} {o : Nat} {Q : Int32 → Prop} (h : w_X6_hasRoom G μ o Q) : MC G l yX6_hasRoom cX6_hasRoom 1 (some .boolean) { frames := 0, cells := 0, slots := 0, locals := 0 } [.ref o] μ (pI (fun r μ' => μ' = μ ∧ Q r)) := by
  refine mz_MC (by decide +kernel) (Nat.le_of_ble_eq_true rfl) (fun p e s m args below meth c S hG hr hlk hnm => ?_)
  have hB14 : ∀ (s0 : Int32) (H : Heap) (locs : List Loc) (ls : Array Slot), Mm G μ H → va_S (Ah G) s.heap H locs → lv_has ls 1 [(0, .ref o)] → w_X6_hasRoom_b14 G μ o Q  s0 → W p l e { frames := 0, cells := 0, slots := 0, locals := 0 } s m args below meth c H locs (0) (0) (MQ below (mQ G (pI (fun r μ' => μ' = μ ∧ Q r))) args s 0 0 (Ah G)) (F0 m 14 ls [.int s0]) := by
    intro  s0 H locs ls hM hS hl h
    unfold w_X6_hasRoom_b14 at h
    obtain ⟨f3, h⟩ := h
    exact mz_iret S hr hlk hM hS (mz_nZ f3) (Nat.le_of_ble_eq_true rfl) (Nat.le_of_ble_eq_true rfl) dX6_hasRoom_14 ⟨_, rfl, rfl, h⟩
  intro H locs ls hM hS hl
  have hl : lv_has ls 1 [(0, .ref o)] := hl
  unfold w_X6_hasRoom at h
  refine lv_aload_n S.1 S.2.1 dX6_hasRoom_0 rfl (lv_at hl 0 rfl) ?_
  obtain ⟨k1, h⟩ := h
  refine mz_geti S hG hM cf_5 fd_165 tw_113 dX6_hasRoom_1 k1 ?_
  refine lv_bipush (v := (nI 8)) S.1 S.2.1 dX6_hasRoom_4 (by decide) ?_
  refine lv_icmp_ge (tgt := 13) S.1 S.2.1 dX6_hasRoom_6 (by decide) (fun c2 => ?_) (fun c2 => ?_)
  · have h := h.1 c2
    refine lv_iconst (v := (nI 0)) S.1 S.2.1 dX6_hasRoom_13 (by decide) ?_
    exact hB14  (nI 0) H locs ls hM hS (lv_sub hl [0] rfl) h
  · have h := h.2 c2
    refine lv_iconst (v := (nI 1)) S.1 S.2.1 dX6_hasRoom_9 (by decide) ?_
    refine lv_goto (tgt := 14) S.1 S.2.1 dX6_hasRoom_10 (by decide) ?_
    exact hB14  (nI 1) H locs ls hM hS (lv_sub hl [0] rfl) h
set_option maxRecDepth 100000 in
set_option maxHeartbeats 4000000 in
theorem c_X6_knows {l : Launch} {G : mgT} {μ : mmT} {o : Nat} {x1 : Int32} {Q : Int32 → Prop} (h : w_X6_knows G μ o x1 Q) : MC G l yX6_knows cX6_knows 3 (some .boolean) { frames := 0, cells := 0, slots := 0, locals := 0 } [.ref o, .int x1] μ (pI (fun r μ' => μ' = μ ∧ Q r)) := by
  refine mz_MC (by decide +kernel) (Nat.le_of_ble_eq_true rfl) (fun p e s m args below meth c S hG hr hlk hnm => ?_)
  have hB2 : ∀ (n : Nat) (x1 : Int32) (x2 : Int32) (H : Heap) (locs : List Loc) (ls : Array Slot), Mm G μ H → va_S (Ah G) s.heap H locs → lv_has ls 3 [(0, .ref o), (1, .int x1), (2, .int x2)] → w_X6_knows_l2 G μ o Q  n x1 x2 → W p l e { frames := 0, cells := 0, slots := 0, locals := 0 } s m args below meth c H locs (0) (0) (MQ below (mQ G (pI (fun r μ' => μ' = μ ∧ Q r))) args s 0 0 (Ah G)) (F0 m 2 ls []) := by
    intro  n
    induction n with
    | zero =>
      intro x1 x2 H locs ls hM hS hl h
      exact False.elim h
    | succ n ih =>
      intro x1 x2 H locs ls hM hS hl h
      have h : w_X6_knows_b2 G μ o Q  (w_X6_knows_l2 G μ o Q  n) x1 x2 := h
      unfold w_X6_knows_b2 at h
      refine lv_iload_n S.1 S.2.1 dX6_knows_2 rfl (lv_at hl 2 rfl) ?_
      refine lv_aload_n S.1 S.2.1 dX6_knows_3 rfl (lv_at hl 0 rfl) ?_
      obtain ⟨k1, h⟩ := h
      refine mz_geti S hG hM cf_5 fd_166 tw_116 dX6_knows_4 k1 ?_
      refine lv_icmp_ge (tgt := 28) S.1 S.2.1 dX6_knows_7 (by decide) (fun c2 => ?_) (fun c2 => ?_)
      · have h := h.1 c2
        refine lv_iconst (v := (nI 0)) S.1 S.2.1 dX6_knows_28 (by decide) ?_
        exact mz_iret S hr hlk hM hS rfl (Nat.le_of_ble_eq_true rfl) (Nat.le_of_ble_eq_true rfl) dX6_knows_29 ⟨_, rfl, rfl, h⟩
      · have h := h.2 c2
        refine lv_aload_n S.1 S.2.1 dX6_knows_10 rfl (lv_at hl 0 rfl) ?_
        refine mz_getr S hG hM cf_5 fd_161 tw_104 dX6_knows_11 k1 ?_
        refine lv_iload_n S.1 S.2.1 dX6_knows_14 rfl (lv_at hl 2 rfl) ?_
        obtain ⟨a3, e4, h⟩ := h
        refine mz_o1 e4 ?_
        obtain ⟨k5, h⟩ := h
        obtain ⟨b6, h⟩ := h
        refine mz_iald S hG hM dX6_knows_15 k5 b6 ?_
        refine lv_iload_n S.1 S.2.1 dX6_knows_16 rfl (lv_at hl 1 rfl) ?_
        refine lv_icmp_ne (tgt := 22) S.1 S.2.1 dX6_knows_17 (by decide) (fun c7 => ?_) (fun c7 => ?_)
        · have h := h.1 c7
          refine lv_iinc (v := (x2 + nI 1)) (lv' := [(2, .int (x2 + nI 1)), (0, .ref o), (1, .int x1)]) S.1 S.2.1 dX6_knows_22 hl (k := 2) rfl rfl (by decide) rfl (fun ls hl => ?_)
          refine lv_goto (tgt := 2) S.1 S.2.1 dX6_knows_25 (by decide) ?_
          exact ih x1 (x2 + nI 1) H locs ls hM hS (lv_sub hl [1, 2, 0] rfl) h
        · have h := h.2 c7
          refine lv_iconst (v := (nI 1)) S.1 S.2.1 dX6_knows_20 (by decide) ?_
          exact mz_iret S hr hlk hM hS rfl (Nat.le_of_ble_eq_true rfl) (Nat.le_of_ble_eq_true rfl) dX6_knows_21 ⟨_, rfl, rfl, h⟩
  intro H locs ls hM hS hl
  have hl : lv_has ls 3 [(0, .ref o), (1, .int x1)] := hl
  unfold w_X6_knows at h
  refine lv_iconst (v := (nI 0)) S.1 S.2.1 dX6_knows_0 (by decide) ?_
  refine lv_istore_n (lv' := [(2, .int (nI 0)), (0, .ref o), (1, .int x1)]) S.1 S.2.1 dX6_knows_1 rfl hl (by decide) rfl (fun ls hl => ?_)
  obtain ⟨n9, h⟩ := h
  exact hB2  n9 x1 (nI 0) H locs ls hM hS (lv_sub hl [1, 2, 0] rfl) h
set_option maxRecDepth 100000 in
set_option maxHeartbeats 4000000 in
theorem c_X6_learn {l : Launch} {G : mgT} {μ : mmT} {o : Nat} {x1 : Int32} {Q : mmT → Prop} (h : w_X6_learn G μ o x1 Q) : MC G l yX6_learn cX6_learn 2 none { frames := 1, cells := 0, slots := 0, locals := 60 } [.ref o, .int x1] μ (pV Q) := by
  refine mz_MC (by decide +kernel) (Nat.le_of_ble_eq_true rfl) (fun p e s m args below meth c S hG hr hlk hnm => ?_)
  have hB30 : ∀ (x1 : Int32) (μ : mmT) (H : Heap) (locs : List Loc) (ls : Array Slot), Mm G μ H → va_S (Ah G) s.heap H locs → lv_has ls 2 [(0, .ref o), (1, .int x1)] → w_X6_learn_b30 G o Q  x1 μ → W p l e { frames := 1, cells := 0, slots := 0, locals := 60 } s m args below meth c H locs (0) (0) (MQ below (mQ G (pV Q)) args s 0 0 (Ah G)) (F0 m 30 ls []) := by
    intro  x1 μ H locs ls hM hS hl h
    unfold w_X6_learn_b30 at h
    refine lv_aload_n S.1 S.2.1 dX6_learn_30 rfl (lv_at hl 0 rfl) ?_
    obtain ⟨k3, h⟩ := h
    refine mz_getr S hG hM cf_5 fd_161 tw_104 dX6_learn_31 k3 ?_
    refine lv_aload_n S.1 S.2.1 dX6_learn_34 rfl (lv_at hl 0 rfl) ?_
    refine mz_geti S hG hM cf_5 fd_166 tw_116 dX6_learn_35 k3 ?_
    refine lv_iload_n S.1 S.2.1 dX6_learn_38 rfl (lv_at hl 1 rfl) ?_
    obtain ⟨a4, e5, h⟩ := h
    refine mz_o2 e5 ?_
    obtain ⟨k6, h⟩ := h
    obtain ⟨b7, h⟩ := h
    refine mz_iast S hG hM hS dX6_learn_39 k6 b7 (fun H locs hM hS hz9 => ?_)
    refine lv_aload_n S.1 S.2.1 dX6_learn_40 rfl (lv_at hl 0 rfl) ?_
    refine lv_dup S.1 S.2.1 dX6_learn_41 rfl ?_
    refine mz_geti S hG hM cf_5 fd_166 tw_116 dX6_learn_42 k3 ?_
    refine lv_iconst (v := (nI 1)) S.1 S.2.1 dX6_learn_45 (by decide) ?_
    refine lv_iadd S.1 S.2.1 dX6_learn_46 ?_
    refine mz_puti S hG hM hS cf_5 fd_166 tw_116 dX6_learn_47 k3 rfl rfl (fun H locs hM hS hz9 => ?_)
    exact mz_vret S hr hlk hM hS (Nat.le_of_ble_eq_true rfl) (Nat.le_of_ble_eq_true rfl) dX6_learn_50 ⟨rfl, h⟩
  intro H locs ls hM hS hl
  have hl : lv_has ls 2 [(0, .ref o), (1, .int x1)] := hl
  unfold w_X6_learn at h
  refine lv_aload_n S.1 S.2.1 dX6_learn_0 rfl (lv_at hl 0 rfl) ?_
  obtain ⟨k1, h⟩ := h
  refine mz_geti S hG hM cf_5 fd_166 tw_116 dX6_learn_1 k1 ?_
  refine lv_bipush (v := (nI 8)) S.1 S.2.1 dX6_learn_4 (by decide) ?_
  refine lv_icmp_lt (tgt := 30) S.1 S.2.1 dX6_learn_6 (by decide) (fun c2 => ?_) (fun c2 => ?_)
  · have h := h.1 c2
    exact hB30  x1 μ H locs ls hM hS (lv_sub hl [0, 1] rfl) h
  · have h := h.2 c2
    refine lv_aload_n S.1 S.2.1 dX6_learn_9 rfl (lv_at hl 0 rfl) ?_
    refine mz_getr S hG hM cf_5 fd_161 tw_104 dX6_learn_10 k1 ?_
    refine lv_iconst (v := (nI 1)) S.1 S.2.1 dX6_learn_13 (by decide) ?_
    refine lv_aload_n S.1 S.2.1 dX6_learn_14 rfl (lv_at hl 0 rfl) ?_
    refine mz_getr S hG hM cf_5 fd_161 tw_104 dX6_learn_15 k1 ?_
    refine lv_iconst (v := (nI 0)) S.1 S.2.1 dX6_learn_18 (by decide) ?_
    refine lv_bipush (v := (nI 7)) S.1 S.2.1 dX6_learn_19 (by decide) ?_
    obtain ⟨a8, e9, h⟩ := h
    refine mz_o4 e9 ?_
    obtain ⟨k10, h⟩ := h
    refine mz_o2 e9 ?_
    obtain ⟨b11, b12, h⟩ := h
    refine mz_copy S hG hM hS hl.1 tw_547 tw_549 tw_548 tw_23 k10 k10 (by decide) (by decide) (by decide) b11 b12 (Nat.le_of_ble_eq_true rfl) (Nat.le_of_ble_eq_true rfl) dX6_learn_21 (fun H locs hM hS => ?_)
    refine lv_aload_n S.1 S.2.1 dX6_learn_24 rfl (lv_at hl 0 rfl) ?_
    refine lv_bipush (v := (nI 7)) S.1 S.2.1 dX6_learn_25 (by decide) ?_
    refine mz_puti S hG hM hS cf_5 fd_166 tw_116 dX6_learn_27 k1 rfl rfl (fun H locs hM hS hz9 => ?_)
    exact hB30  x1 (sI (sC μ a8 (nI 1).toNatClampNeg a8 (nI 0).toNatClampNeg (nI 7).toNatClampNeg) 166 o (nI 7)) H locs ls hM hS (lv_sub hl [0, 1] rfl) h
set_option maxRecDepth 100000 in
set_option maxHeartbeats 4000000 in
theorem c_X6_accept {l : Launch} {G : mgT} {μ : mmT} {o : Nat} {x1 : Int32} {x2 : Int32} {Q : mmT → Prop} (h : w_X6_accept G μ o x1 x2 Q) : MC G l yX6_accept cX6_accept 3 none { frames := 2, cells := 0, slots := 0, locals := 81 } [.ref o, .int x1, .int x2] μ (pV Q) := by
  refine mz_MC (by decide +kernel) (Nat.le_of_ble_eq_true rfl) (fun p e s m args below meth c S hG hr hlk hnm => ?_)
  intro H locs ls hM hS hl
  have hl : lv_has ls 3 [(0, .ref o), (1, .int x1), (2, .int x2)] := hl
  unfold w_X6_accept at h
  refine lv_aload_n S.1 S.2.1 dX6_accept_0 rfl (lv_at hl 0 rfl) ?_
  obtain ⟨k1, h⟩ := h
  refine mz_V S hG hM hS cf_5 k1 (As := []) (rest := []) (c_X6_hasRoom h) yf_X6_hasRoom tw_599 tw_592 tw_593 ⟨Nat.le_of_ble_eq_true rfl, Nat.le_of_ble_eq_true rfl⟩ ⟨(Nat.le_of_ble_eq_true rfl), (Nat.le_of_ble_eq_true rfl)⟩ rfl hl.1 rfl (Nat.le_of_ble_eq_true rfl) dX6_accept_1 (fun v9 μ9 H locs hp hM hS => ?_)
  obtain ⟨u2, rfl, e9, h⟩ := hp
  rw [e9] at hM
  refine W.cs (cells' := 0) (slots' := 0) rfl rfl ?_
  refine lv_if_ne (tgt := 8) S.1 S.2.1 dX6_accept_4 (by decide) (fun c3 => ?_) (fun c3 => ?_)
  · have h := h.1 c3
    refine lv_aload_n S.1 S.2.1 dX6_accept_8 rfl (lv_at hl 0 rfl) ?_
    refine mz_getr S hG hM cf_5 fd_160 tw_102 dX6_accept_9 k1 ?_
    refine lv_aload_n S.1 S.2.1 dX6_accept_12 rfl (lv_at hl 0 rfl) ?_
    refine mz_geti S hG hM cf_5 fd_165 tw_113 dX6_accept_13 k1 ?_
    refine lv_iload_n S.1 S.2.1 dX6_accept_16 rfl (lv_at hl 1 rfl) ?_
    obtain ⟨a4, e5, h⟩ := h
    refine mz_o2 e5 ?_
    obtain ⟨k6, h⟩ := h
    obtain ⟨b7, h⟩ := h
    refine mz_iast S hG hM hS dX6_accept_17 k6 b7 (fun H locs hM hS hz9 => ?_)
    refine lv_aload_n S.1 S.2.1 dX6_accept_18 rfl (lv_at hl 0 rfl) ?_
    refine lv_dup S.1 S.2.1 dX6_accept_19 rfl ?_
    refine mz_geti S hG hM cf_5 fd_165 tw_113 dX6_accept_20 k1 ?_
    refine lv_iconst (v := (nI 1)) S.1 S.2.1 dX6_accept_23 (by decide) ?_
    refine lv_iadd S.1 S.2.1 dX6_accept_24 ?_
    refine mz_puti S hG hM hS cf_5 fd_165 tw_113 dX6_accept_25 k1 rfl rfl (fun H locs hM hS hz9 => ?_)
    refine lv_aload_n S.1 S.2.1 dX6_accept_28 rfl (lv_at hl 0 rfl) ?_
    refine lv_dup S.1 S.2.1 dX6_accept_29 rfl ?_
    refine mz_geti S hG hM cf_5 fd_164 tw_111 dX6_accept_30 k1 ?_
    refine lv_iconst (v := (nI 1)) S.1 S.2.1 dX6_accept_33 (by decide) ?_
    refine lv_iadd S.1 S.2.1 dX6_accept_34 ?_
    refine mz_puti S hG hM hS cf_5 fd_164 tw_111 dX6_accept_35 k1 rfl rfl (fun H locs hM hS hz9 => ?_)
    refine lv_aload_n S.1 S.2.1 dX6_accept_38 rfl (lv_at hl 0 rfl) ?_
    refine lv_iload_n S.1 S.2.1 dX6_accept_39 rfl (lv_at hl 2 rfl) ?_
    refine mz_V S hG hM hS cf_5 k1 (As := [.int x2]) (rest := []) (c_X6_learn h) yf_X6_learn tw_600 tw_602 ts_7 ⟨Nat.le_of_ble_eq_true rfl, Nat.le_of_ble_eq_true rfl⟩ ⟨(Nat.le_of_ble_eq_true rfl), (Nat.le_of_ble_eq_true rfl)⟩ rfl hl.1 rfl (Nat.le_of_ble_eq_true rfl) dX6_accept_40 (fun v9 μ8 H locs hp hM hS => ?_)
    obtain ⟨rfl, h⟩ := hp
    refine W.cs (cells' := 0) (slots' := 0) rfl rfl ?_
    exact mz_vret S hr hlk hM hS (Nat.le_of_ble_eq_true rfl) (Nat.le_of_ble_eq_true rfl) dX6_accept_43 ⟨rfl, h⟩
  · have h := h.2 c3
    exact mz_vret S hr hlk hM hS (Nat.le_of_ble_eq_true rfl) (Nat.le_of_ble_eq_true rfl) dX6_accept_7 ⟨rfl, h⟩
set_option maxRecDepth 100000 in
set_option maxHeartbeats 4000000 in
theorem c_X6_takeFirst {l : Launch} {G : mgT} {μ : mmT} {o : Nat} {Q : Int32 → mmT → Prop} (h : w_X6_takeFirst G μ o Q) : MC G l yX6_takeFirst cX6_takeFirst 2 (some .int) { frames := 1, cells := 0, slots := 0, locals := 60 } [.ref o] μ (pI Q) := by
  refine mz_MC (by decide +kernel) (Nat.le_of_ble_eq_true rfl) (fun p e s m args below meth c S hG hr hlk hnm => ?_)
  intro H locs ls hM hS hl
  have hl : lv_has ls 2 [(0, .ref o)] := hl
  unfold w_X6_takeFirst at h
  refine lv_aload_n S.1 S.2.1 dX6_takeFirst_0 rfl (lv_at hl 0 rfl) ?_
  obtain ⟨k1, h⟩ := h
  refine mz_geti S hG hM cf_5 fd_165 tw_113 dX6_takeFirst_1 k1 ?_
  refine lv_if_gt (tgt := 9) S.1 S.2.1 dX6_takeFirst_4 (by decide) (fun c2 => ?_) (fun c2 => ?_)
  · have h := h.1 c2
    refine lv_aload_n S.1 S.2.1 dX6_takeFirst_9 rfl (lv_at hl 0 rfl) ?_
    refine mz_getr S hG hM cf_5 fd_160 tw_102 dX6_takeFirst_10 k1 ?_
    refine lv_iconst (v := (nI 0)) S.1 S.2.1 dX6_takeFirst_13 (by decide) ?_
    obtain ⟨a3, e4, h⟩ := h
    refine mz_o1 e4 ?_
    obtain ⟨k5, h⟩ := h
    obtain ⟨b6, h⟩ := h
    refine mz_iald S hG hM dX6_takeFirst_14 k5 b6 ?_
    refine lv_istore_n (lv' := [(1, .int (mA μ a3 (nI 0).toNatClampNeg)), (0, .ref o)]) S.1 S.2.1 dX6_takeFirst_15 rfl hl (by decide) rfl (fun ls hl => ?_)
    refine lv_aload_n S.1 S.2.1 dX6_takeFirst_16 rfl (lv_at hl 1 rfl) ?_
    refine mz_getr S hG hM cf_5 fd_160 tw_102 dX6_takeFirst_17 k1 ?_
    refine lv_iconst (v := (nI 1)) S.1 S.2.1 dX6_takeFirst_20 (by decide) ?_
    refine lv_aload_n S.1 S.2.1 dX6_takeFirst_21 rfl (lv_at hl 1 rfl) ?_
    refine mz_getr S hG hM cf_5 fd_160 tw_102 dX6_takeFirst_22 k1 ?_
    refine lv_iconst (v := (nI 0)) S.1 S.2.1 dX6_takeFirst_25 (by decide) ?_
    refine lv_bipush (v := (nI 7)) S.1 S.2.1 dX6_takeFirst_26 (by decide) ?_
    refine mz_o4 e4 ?_
    refine mz_o2 e4 ?_
    obtain ⟨b7, b8, h⟩ := h
    refine mz_copy S hG hM hS hl.1 tw_547 tw_549 tw_548 tw_23 k5 k5 (by decide) (by decide) (by decide) b7 b8 (Nat.le_of_ble_eq_true rfl) (Nat.le_of_ble_eq_true rfl) dX6_takeFirst_28 (fun H locs hM hS => ?_)
    refine lv_aload_n S.1 S.2.1 dX6_takeFirst_31 rfl (lv_at hl 1 rfl) ?_
    refine lv_dup S.1 S.2.1 dX6_takeFirst_32 rfl ?_
    refine mz_geti S hG hM cf_5 fd_165 tw_113 dX6_takeFirst_33 k1 ?_
    refine lv_iconst (v := (nI 1)) S.1 S.2.1 dX6_takeFirst_36 (by decide) ?_
    refine lv_isub S.1 S.2.1 dX6_takeFirst_37 ?_
    refine mz_puti S hG hM hS cf_5 fd_165 tw_113 dX6_takeFirst_38 k1 rfl rfl (fun H locs hM hS hz9 => ?_)
    refine lv_iload_n S.1 S.2.1 dX6_takeFirst_41 rfl (lv_at hl 0 rfl) ?_
    exact mz_iret S hr hlk hM hS rfl (Nat.le_of_ble_eq_true rfl) (Nat.le_of_ble_eq_true rfl) dX6_takeFirst_42 ⟨_, rfl, h⟩
  · have h := h.2 c2
    refine lv_iconst (v := (-1)) S.1 S.2.1 dX6_takeFirst_7 (by decide) ?_
    exact mz_iret S hr hlk hM hS rfl (Nat.le_of_ble_eq_true rfl) (Nat.le_of_ble_eq_true rfl) dX6_takeFirst_8 ⟨_, rfl, h⟩
set_option maxRecDepth 100000 in
set_option maxHeartbeats 4000000 in
theorem c_X7_init {l : Launch} {G : mgT} {μ : mmT} {z : Nat} {o : Nat} {Q : mmT → Nat → Prop} (h : w_X7_init G μ z o Q) : MZ G l yX7_init cX7_init 2 { frames := 2, cells := 63, slots := 303, locals := 40 } [.ref o] μ z Q := by
  refine mz_MZ (by decide +kernel) (Nat.le_of_ble_eq_true rfl) (fun p e s m args below meth c S hG hr hlk hnm => ?_)
  have hB58 : ∀ (n : Nat) (x1 : Int32) (t58 : Nat) (μ : mmT) (z : Nat) (H : Heap) (locs : List Loc) (ls : Array Slot), Mm G μ H → va_S (Ah G) s.heap H locs → gh G ≤ z → H.size = z → lv_has ls 2 [(0, .ref o), (1, .int x1)] → w_X7_init_l58 G o Q  n x1 t58 μ z → W p l e { frames := 2, cells := 63, slots := 303, locals := 40 } s m args below meth c H locs (2 + 1 * t58) (120 + 3 * t58) (MQ below (mQz G Q) args s 63 303 (Ah G)) (F0 m 58 ls []) := by
    intro  n
    induction n with
    | zero =>
      intro x1 t58 μ z H locs ls hM hS hg hz hl h
      exact False.elim h
    | succ n ih =>
      intro x1 t58 μ z H locs ls hM hS hg hz hl h
      have h : w_X7_init_b58 G o Q  (w_X7_init_l58 G o Q  n) x1 t58 μ z := h
      unfold w_X7_init_b58 at h
      obtain ⟨ht58, h⟩ := h
      refine lv_iload_n S.1 S.2.1 dX7_init_58 rfl (lv_at hl 1 rfl) ?_
      refine lv_bipush (v := (nI 60)) S.1 S.2.1 dX7_init_59 (by decide) ?_
      refine lv_icmp_ge (tgt := 83) S.1 S.2.1 dX7_init_61 (by decide) (fun c10 => ?_) (fun c10 => ?_)
      · have h := h.1 c10
        exact mz_zret S hr hlk hM hS hz hg (by show _ ≤ 63; omega) (by show _ ≤ 303; omega) dX7_init_83 h
      · have h := h.2 c10
        refine lv_aload_n S.1 S.2.1 dX7_init_64 rfl (lv_at hl 0 rfl) ?_
        obtain ⟨k11, h⟩ := h
        refine mz_getr S hG hM cf_6 fd_193 tw_280 dX7_init_65 k11 ?_
        refine lv_iload_n S.1 S.2.1 dX7_init_68 rfl (lv_at hl 1 rfl) ?_
        refine mz_new S hG hM hS hz hg cf_1 nv_1 tw_253 tw_255 tw_9 (by show (2 + 1 * t58) + 1 ≤ 63; omega) (by show (120 + 3 * t58) + 3 ≤ 303; omega) dX7_init_69 (fun H hM hS hz => ?_)
        have hg := Nat.le_succ_of_le hg
        refine W.cs (cells' := 3 + 1 * t58) (slots' := 123 + 3 * t58) (by first | omega | (dsimp only; omega)) (by first | omega | (dsimp only; omega)) ?_
        refine lv_dup S.1 S.2.1 dX7_init_72 rfl ?_
        obtain ⟨k12, h⟩ := h
        refine mz_IN (host := "CrowMail") S hG hM hS hz hg (As := []) (rest := [.ref z, .int x1, va_rf (mR μ 193 o)]) (c_X1_init h) yf_X1_init rfl (List.mem_of_getElem? (i := 256) (by decide +kernel)) tw_257 ⟨Nat.le_of_ble_eq_true rfl, Nat.le_of_ble_eq_true rfl⟩ ⟨(by show (3 + 1 * t58) + 0 ≤ 63; omega), (by show (123 + 3 * t58) + 0 ≤ 303; omega)⟩ rfl hl.1 rfl (by simp [mz_cat, mz_cr, mz_ci, mz_cl, mz_cf, mz_cd, mz_cn]) dX7_init_73 (fun μ13 z14 H locs h hM hS hg hz => ?_)
        refine W.cs (cells' := 3 + 1 * t58) (slots' := 123 + 3 * t58) (by first | omega | (dsimp only; omega)) (by first | omega | (dsimp only; omega)) ?_
        obtain ⟨a15, e16, h⟩ := h
        refine mz_o2 e16 ?_
        obtain ⟨k17, h⟩ := h
        obtain ⟨k18, h⟩ := h
        obtain ⟨b19, h⟩ := h
        refine mz_aast (j := 5) S hG hM hS cf_1 dX7_init_76 (by decide) rfl k17 k18 b19 (fun H locs hM hS hz9 => ?_)
        have hz := hz9.trans hz
        refine lv_iinc (v := (x1 + nI 1)) (lv' := [(1, .int (x1 + nI 1)), (0, .ref o)]) S.1 S.2.1 dX7_init_77 hl (k := 1) rfl rfl (by decide) rfl (fun ls hl => ?_)
        refine lv_goto (tgt := 58) S.1 S.2.1 dX7_init_80 (by decide) ?_
        refine W.widen (k := 2 + 1 * (t58 + 1)) (n := 120 + 3 * (t58 + 1)) (by omega) (by omega) ?_
        exact ih (x1 + nI 1) (t58 + 1) (sB μ13 a15 x1.toNatClampNeg (some z)) z14 H locs ls hM hS hg hz (lv_sub hl [1, 0] rfl) h
  intro H locs ls hM hS hg hz hl
  have hl : lv_has ls 2 [(0, .ref o)] := hl
  unfold w_X7_init at h
  refine lv_aload_n S.1 S.2.1 dX7_init_0 rfl (lv_at hl 0 rfl) ?_
  refine W.objInit S.1 S.2.1 S.2.2.2.1 (S.2.2.2.2 _ tw_252) (S.2.2.2.2 _ tw_42) (S.2.2.2.2 _ tw_43) rfl (by rw [S.2.2.1]; exact hl.1) rfl dX7_init_1 (Nat.le_of_ble_eq_true rfl) (Nat.le_of_ble_eq_true rfl) ?_
  refine W.eq (g2 := F0 m 4 ls []) rfl ?_
  refine lv_aload_n S.1 S.2.1 dX7_init_4 rfl (lv_at hl 0 rfl) ?_
  refine lv_bipush (v := (nI 60)) S.1 S.2.1 dX7_init_5 (by decide) ?_
  refine mz_newa (j := 1) (atype := .char) S hG hM hS hz hg (by decide) rfl tw_278 (N := 60) (nI_pos (Nat.le_of_ble_eq_true rfl)) (nI_clamp (Nat.le_of_ble_eq_true rfl)) (Nat.le_of_ble_eq_true rfl) (Nat.le_of_ble_eq_true rfl) (Nat.le_of_ble_eq_true rfl) dX7_init_7 (fun H hM hS hz => ?_)
  have hg := Nat.le_succ_of_le hg
  refine W.cs (cells' := 1) (slots' := 60) rfl rfl ?_
  obtain ⟨k1, h⟩ := h
  refine mz_putFr (x := (some z)) S hG hM hS cf_6 fd_192 tw_279 dX7_init_9 (by rw [hnm]; rfl) k1 rfl rfl (fun H locs hM hS hz9 => ?_)
  have hz := hz9.trans hz
  refine lv_aload_n S.1 S.2.1 dX7_init_12 rfl (lv_at hl 0 rfl) ?_
  refine lv_bipush (v := (nI 60)) S.1 S.2.1 dX7_init_13 (by decide) ?_
  refine mz_newq (j := 5) S hG hM hS hz hg (by decide) (by decide) rfl tw_253 (N := 60) (nI_pos (Nat.le_of_ble_eq_true rfl)) (nI_clamp (Nat.le_of_ble_eq_true rfl)) (Nat.le_of_ble_eq_true rfl) (Nat.le_of_ble_eq_true rfl) (Nat.le_of_ble_eq_true rfl) dX7_init_15 (fun H hM hS hz => ?_)
  have hg := Nat.le_succ_of_le hg
  refine W.cs (cells' := 2) (slots' := 120) rfl rfl ?_
  obtain ⟨k2, h⟩ := h
  refine mz_putFr (x := (some (z + 1))) S hG hM hS cf_6 fd_193 tw_280 dX7_init_18 (by rw [hnm]; rfl) k2 rfl rfl (fun H locs hM hS hz9 => ?_)
  have hz := hz9.trans hz
  refine lv_aload_n S.1 S.2.1 dX7_init_21 rfl (lv_at hl 0 rfl) ?_
  refine lv_iconst (v := (nI 0)) S.1 S.2.1 dX7_init_22 (by decide) ?_
  obtain ⟨k3, h⟩ := h
  refine mz_puti S hG hM hS cf_6 fd_194 tw_282 dX7_init_23 k3 rfl rfl (fun H locs hM hS hz9 => ?_)
  have hz := hz9.trans hz
  refine lv_aload_n S.1 S.2.1 dX7_init_26 rfl (lv_at hl 0 rfl) ?_
  refine lv_iconst (v := (nI 0)) S.1 S.2.1 dX7_init_27 (by decide) ?_
  obtain ⟨k4, h⟩ := h
  refine mz_puti S hG hM hS cf_6 fd_195 tw_284 dX7_init_28 k4 rfl rfl (fun H locs hM hS hz9 => ?_)
  have hz := hz9.trans hz
  refine lv_aload_n S.1 S.2.1 dX7_init_31 rfl (lv_at hl 0 rfl) ?_
  refine lv_iconst (v := (nI 0)) S.1 S.2.1 dX7_init_32 (by decide) ?_
  obtain ⟨k5, h⟩ := h
  refine mz_puti S hG hM hS cf_6 fd_196 tw_286 dX7_init_33 k5 rfl rfl (fun H locs hM hS hz9 => ?_)
  have hz := hz9.trans hz
  refine lv_aload_n S.1 S.2.1 dX7_init_36 rfl (lv_at hl 0 rfl) ?_
  refine lv_iconst (v := (nI 0)) S.1 S.2.1 dX7_init_37 (by decide) ?_
  obtain ⟨k6, h⟩ := h
  refine mz_puti S hG hM hS cf_6 fd_197 tw_288 dX7_init_38 k6 rfl rfl (fun H locs hM hS hz9 => ?_)
  have hz := hz9.trans hz
  refine lv_aload_n S.1 S.2.1 dX7_init_41 rfl (lv_at hl 0 rfl) ?_
  refine lv_iconst (v := (nI 0)) S.1 S.2.1 dX7_init_42 (by decide) ?_
  obtain ⟨k7, h⟩ := h
  refine mz_puti S hG hM hS cf_6 fd_198 tw_289 dX7_init_43 k7 rfl rfl (fun H locs hM hS hz9 => ?_)
  have hz := hz9.trans hz
  refine lv_aload_n S.1 S.2.1 dX7_init_46 rfl (lv_at hl 0 rfl) ?_
  refine lv_iconst (v := (nI 0)) S.1 S.2.1 dX7_init_47 (by decide) ?_
  obtain ⟨k8, h⟩ := h
  refine mz_puti S hG hM hS cf_6 fd_199 tw_290 dX7_init_48 k8 rfl rfl (fun H locs hM hS hz9 => ?_)
  have hz := hz9.trans hz
  refine lv_aload_n S.1 S.2.1 dX7_init_51 rfl (lv_at hl 0 rfl) ?_
  refine lv_iconst (v := (nI 0)) S.1 S.2.1 dX7_init_52 (by decide) ?_
  obtain ⟨k9, h⟩ := h
  refine mz_puti S hG hM hS cf_6 fd_200 tw_291 dX7_init_53 k9 rfl rfl (fun H locs hM hS hz9 => ?_)
  have hz := hz9.trans hz
  refine lv_iconst (v := (nI 0)) S.1 S.2.1 dX7_init_56 (by decide) ?_
  refine lv_istore_n (lv' := [(1, .int (nI 0)), (0, .ref o)]) S.1 S.2.1 dX7_init_57 rfl hl (by decide) rfl (fun ls hl => ?_)
  obtain ⟨n9, h⟩ := h
  refine W.widen (k := 2 + 1 * 0) (n := 120 + 3 * 0) (by omega) (by omega) ?_
  exact hB58  n9 (nI 0) 0 (sI (sI (sI (sI (sI (sI (sI (sR (nA (sR (nA μ z 1 60) 192 o (some z)) (z + 1) 5 60) 193 o (some (z + 1))) 194 o (nI 0)) 195 o (nI 0)) 196 o (nI 0)) 197 o (nI 0)) 198 o (nI 0)) 199 o (nI 0)) 200 o (nI 0)) ((z + 1) + 1) H locs ls hM hS hg hz (lv_sub hl [1, 0] rfl) h
set_option maxRecDepth 100000 in
set_option maxHeartbeats 4000000 in
theorem c_X7_append {l : Launch} {G : mgT} {μ : mmT} {o : Nat} {x1 : Int32} {Q : Int32 → mmT → Prop} (h : w_X7_append G μ o x1 Q) : MC G l yX7_append cX7_append 2 (some .int) { frames := 0, cells := 0, slots := 0, locals := 0 } [.ref o, .int x1] μ (pI Q) := by
  refine mz_MC (by decide +kernel) (Nat.le_of_ble_eq_true rfl) (fun p e s m args below meth c S hG hr hlk hnm => ?_)
  have hB29 : ∀ (μ : mmT) (H : Heap) (locs : List Loc) (ls : Array Slot), Mm G μ H → va_S (Ah G) s.heap H locs → lv_has ls 2 [(0, .ref o)] → w_X7_append_b29 G o Q  μ → W p l e { frames := 0, cells := 0, slots := 0, locals := 0 } s m args below meth c H locs (0) (0) (MQ below (mQ G (pI Q)) args s 0 0 (Ah G)) (F0 m 29 ls []) := by
    intro  μ H locs ls hM hS hl h
    unfold w_X7_append_b29 at h
    refine lv_aload_n S.1 S.2.1 dX7_append_29 rfl (lv_at hl 0 rfl) ?_
    obtain ⟨k3, h⟩ := h
    refine mz_geti S hG hM cf_6 fd_194 tw_282 dX7_append_30 k3 ?_
    exact mz_iret S hr hlk hM hS rfl (Nat.le_of_ble_eq_true rfl) (Nat.le_of_ble_eq_true rfl) dX7_append_33 ⟨_, rfl, h⟩
  intro H locs ls hM hS hl
  have hl : lv_has ls 2 [(0, .ref o), (1, .int x1)] := hl
  unfold w_X7_append at h
  refine lv_aload_n S.1 S.2.1 dX7_append_0 rfl (lv_at hl 0 rfl) ?_
  obtain ⟨k1, h⟩ := h
  refine mz_geti S hG hM cf_6 fd_194 tw_282 dX7_append_1 k1 ?_
  refine lv_bipush (v := (nI 60)) S.1 S.2.1 dX7_append_4 (by decide) ?_
  refine lv_icmp_ge (tgt := 29) S.1 S.2.1 dX7_append_6 (by decide) (fun c2 => ?_) (fun c2 => ?_)
  · have h := h.1 c2
    exact hB29  μ H locs ls hM hS (lv_sub hl [0] rfl) h
  · have h := h.2 c2
    refine lv_aload_n S.1 S.2.1 dX7_append_9 rfl (lv_at hl 0 rfl) ?_
    refine mz_getr S hG hM cf_6 fd_192 tw_279 dX7_append_10 k1 ?_
    refine lv_aload_n S.1 S.2.1 dX7_append_13 rfl (lv_at hl 0 rfl) ?_
    refine mz_geti S hG hM cf_6 fd_194 tw_282 dX7_append_14 k1 ?_
    refine lv_iload_n S.1 S.2.1 dX7_append_17 rfl (lv_at hl 1 rfl) ?_
    obtain ⟨a4, e5, h⟩ := h
    refine mz_o2 e5 ?_
    obtain ⟨k6, h⟩ := h
    obtain ⟨b7, h⟩ := h
    refine mz_cast S hG hM hS dX7_append_18 k6 b7 (fun H locs hM hS hz9 => ?_)
    refine lv_aload_n S.1 S.2.1 dX7_append_19 rfl (lv_at hl 0 rfl) ?_
    refine lv_dup S.1 S.2.1 dX7_append_20 rfl ?_
    refine mz_geti S hG hM cf_6 fd_194 tw_282 dX7_append_21 k1 ?_
    refine lv_iconst (v := (nI 1)) S.1 S.2.1 dX7_append_24 (by decide) ?_
    refine lv_iadd S.1 S.2.1 dX7_append_25 ?_
    refine mz_puti S hG hM hS cf_6 fd_194 tw_282 dX7_append_26 k1 rfl rfl (fun H locs hM hS hz9 => ?_)
    exact hB29  (sI (sA μ a4 (mI μ 194 o).toNatClampNeg (vp_nar .char x1)) 194 o ((mI (sA μ a4 (mI μ 194 o).toNatClampNeg (vp_nar .char x1)) 194 o) + (nI 1))) H locs ls hM hS (lv_sub hl [0] rfl) h
set_option maxRecDepth 100000 in
set_option maxHeartbeats 4000000 in
theorem c_J0_coder_7d493 {l : Launch} {G : mgT} {μ : mmT} {o : Nat} {Q : Int32 → Prop} (h : w_J0_coder_7d493 G μ o Q) : MC G l yJ0_coder_7d493 cJ0_coder_7d493 1 (some .byte) { frames := 0, cells := 0, slots := 0, locals := 0 } [.ref o] μ (pI (fun r μ' => μ' = μ ∧ Q r)) := by
  refine mz_MC (by decide +kernel) (Nat.le_of_ble_eq_true rfl) (fun p e s m args below meth c S hG hr hlk hnm => ?_)
  intro H locs ls hM hS hl
  have hl : lv_has ls 1 [(0, .ref o)] := hl
  unfold w_J0_coder_7d493 at h
  refine va_gets S.1 S.2.1 (hG.2.2.2.2.2.2.2.2.2.2.1) hS S.2.2.2.1 (S.2.2.2.2 _ tw_877) (fun _ q => q) dJ0_coder_7d493_0 ?_
  obtain ⟨c1, h⟩ := h
  refine lv_if_eq (tgt := 13) S.1 S.2.1 dJ0_coder_7d493_3 (by decide) (fun c => absurd c c1) (fun _ => ?_)
  refine lv_aload_n S.1 S.2.1 dJ0_coder_7d493_6 rfl (lv_at hl 0 rfl) ?_
  obtain ⟨j2, q3, l4, h⟩ := h
  refine mz_tops (congrArg Value.ref q3) ?_
  refine vk_getf S.1 S.2.1 (hG.txt j2 l4).2.1 hS S.2.2.2.1 (S.2.2.2.2 _ tw_996) (fun _ q => q) dJ0_coder_7d493_7 ?_
  refine lv_goto (tgt := 14) S.1 S.2.1 dJ0_coder_7d493_10 (by decide) ?_
  exact mz_iret S hr hlk hM hS rfl (Nat.le_of_ble_eq_true rfl) (Nat.le_of_ble_eq_true rfl) dJ0_coder_7d493_14 ⟨_, rfl, rfl, h⟩
set_option maxRecDepth 100000 in
set_option maxHeartbeats 4000000 in
theorem c_J0_length_8abf5 {l : Launch} {G : mgT} {μ : mmT} {o : Nat} {Q : Int32 → Prop} (h : w_J0_length_8abf5 G μ o Q) : MC G l yJ0_length_8abf5 cJ0_length_8abf5 1 (some .int) { frames := 1, cells := 0, slots := 0, locals := 20 } [.ref o] μ (pI (fun r μ' => μ' = μ ∧ Q r)) := by
  refine mz_MC (by decide +kernel) (Nat.le_of_ble_eq_true rfl) (fun p e s m args below meth c S hG hr hlk hnm => ?_)
  intro H locs ls hM hS hl
  have hl : lv_has ls 1 [(0, .ref o)] := hl
  unfold w_J0_length_8abf5 at h
  refine lv_aload_n S.1 S.2.1 dJ0_length_8abf5_0 rfl (lv_at hl 0 rfl) ?_
  obtain ⟨j1, q2, l3, h⟩ := h
  refine mz_tops (congrArg Value.ref q2) ?_
  refine vk_getf S.1 S.2.1 (hG.txt j1 l3).2.2.1 hS S.2.2.2.1 (S.2.2.2.2 _ tw_995) (fun _ q => q) dJ0_length_8abf5_1 ?_
  obtain ⟨j4, q5, l6, h⟩ := h
  refine mz_txtL S hG hS l6 q5 dJ0_length_8abf5_4 ?_
  refine lv_aload_n S.1 S.2.1 dJ0_length_8abf5_5 rfl (lv_at hl 0 rfl) ?_
  refine mz_V0 S hG hM hS (mz_recvO (by rw [q2]; exact (hG.txt j1 l3).1) hS) (As := []) (rest := [.int (nI (gLen.getD j4 0))]) (c_J0_coder_7d493 h) yf_J0_coder_7d493 tw_873 tw_874 (S.2.2.2.2 _ tw_875) ⟨Nat.le_of_ble_eq_true rfl, Nat.le_of_ble_eq_true rfl⟩ ⟨(Nat.le_of_ble_eq_true rfl), (Nat.le_of_ble_eq_true rfl)⟩ rfl hl.1 rfl (Nat.le_of_ble_eq_true rfl) dJ0_length_8abf5_6 (fun v9 μ9 H locs hp hM hS => ?_)
  obtain ⟨u7, rfl, e9, h⟩ := hp
  rw [e9] at hM
  refine W.cs (cells' := 0) (slots' := 0) rfl rfl ?_
  refine lv_ishr S.1 S.2.1 dJ0_length_8abf5_9 ?_
  exact mz_iret S hr hlk hM hS rfl (Nat.le_of_ble_eq_true rfl) (Nat.le_of_ble_eq_true rfl) dJ0_length_8abf5_10 ⟨_, rfl, rfl, h⟩
set_option maxRecDepth 100000 in
set_option maxHeartbeats 4000000 in
theorem c_J0_isLatin1_aae02 {l : Launch} {G : mgT} {μ : mmT} {o : Nat} {Q : Int32 → Prop} (h : w_J0_isLatin1_aae02 G μ o Q) : MC G l yJ0_isLatin1_aae02 cJ0_isLatin1_aae02 1 (some .boolean) { frames := 0, cells := 0, slots := 0, locals := 0 } [.ref o] μ (pI (fun r μ' => μ' = μ ∧ Q r)) := by
  refine mz_MC (by decide +kernel) (Nat.le_of_ble_eq_true rfl) (fun p e s m args below meth c S hG hr hlk hnm => ?_)
  intro H locs ls hM hS hl
  have hl : lv_has ls 1 [(0, .ref o)] := hl
  unfold w_J0_isLatin1_aae02 at h
  refine va_gets S.1 S.2.1 (hG.2.2.2.2.2.2.2.2.2.2.1) hS S.2.2.2.1 (S.2.2.2.2 _ tw_877) (fun _ q => q) dJ0_isLatin1_aae02_0 ?_
  obtain ⟨c1, h⟩ := h
  refine lv_if_eq (tgt := 17) S.1 S.2.1 dJ0_isLatin1_aae02_3 (by decide) (fun c => absurd c c1) (fun _ => ?_)
  refine lv_aload_n S.1 S.2.1 dJ0_isLatin1_aae02_6 rfl (lv_at hl 0 rfl) ?_
  obtain ⟨j2, q3, l4, h⟩ := h
  refine mz_tops (congrArg Value.ref q3) ?_
  refine vk_getf S.1 S.2.1 (hG.txt j2 l4).2.1 hS S.2.2.2.1 (S.2.2.2.2 _ tw_996) (fun _ q => q) dJ0_isLatin1_aae02_7 ?_
  obtain ⟨c5, h⟩ := h
  refine lv_if_ne (tgt := 17) S.1 S.2.1 dJ0_isLatin1_aae02_10 (by decide) (fun c => absurd c5 c) (fun _ => ?_)
  refine lv_iconst (v := (nI 1)) S.1 S.2.1 dJ0_isLatin1_aae02_13 (by decide) ?_
  refine lv_goto (tgt := 18) S.1 S.2.1 dJ0_isLatin1_aae02_14 (by decide) ?_
  exact mz_iret S hr hlk hM hS rfl (Nat.le_of_ble_eq_true rfl) (Nat.le_of_ble_eq_true rfl) dJ0_isLatin1_aae02_18 ⟨_, rfl, rfl, h⟩
set_option maxRecDepth 100000 in
set_option maxHeartbeats 4000000 in
theorem c_J3_checkIndex_8e157 {l : Launch} {G : mgT} {μ : mmT} {x0 : Int32} {x1 : Int32} {r2 : Option Nat} {Q : Int32 → Prop} (h : w_J3_checkIndex_8e157 G μ x0 x1 r2 Q) : MC G l yJ3_checkIndex_8e157 cJ3_checkIndex_8e157 3 (some .int) { frames := 0, cells := 0, slots := 0, locals := 0 } [.int x0, .int x1, va_rf r2] μ (pI (fun r μ' => μ' = μ ∧ Q r)) := by
  refine mz_MC (by decide +kernel) (by simp [lg_sl, mz_cat, mz_cr, mz_ci, mz_cl, mz_cf, mz_cd, mz_cn]) (fun p e s m args below meth c S hG hr hlk hnm => ?_)
  intro H locs ls hM hS hl
  have hl : lv_has ls 3 [(0, .int x0), (1, .int x1), (2, va_rf r2)] := by simpa [lv_args, mz_cat, mz_cr, mz_ci, mz_cl, mz_cf, mz_cd, mz_cn] using hl
  unfold w_J3_checkIndex_8e157 at h
  refine lv_iload_n S.1 S.2.1 dJ3_checkIndex_8e157_0 rfl (lv_at hl 0 rfl) ?_
  obtain ⟨c1, h⟩ := h
  refine lv_if_lt (tgt := 9) S.1 S.2.1 dJ3_checkIndex_8e157_1 (by decide) (fun c => absurd c c1) (fun _ => ?_)
  refine lv_iload_n S.1 S.2.1 dJ3_checkIndex_8e157_4 rfl (lv_at hl 0 rfl) ?_
  refine lv_iload_n S.1 S.2.1 dJ3_checkIndex_8e157_5 rfl (lv_at hl 1 rfl) ?_
  obtain ⟨c2, h⟩ := h
  refine lv_icmp_lt (tgt := 16) S.1 S.2.1 dJ3_checkIndex_8e157_6 (by decide) (fun _ => ?_) (fun c => absurd c2 c)
  refine lv_iload_n S.1 S.2.1 dJ3_checkIndex_8e157_16 rfl (lv_at hl 0 rfl) ?_
  exact mz_iret S hr hlk hM hS rfl (Nat.le_of_ble_eq_true rfl) (Nat.le_of_ble_eq_true rfl) dJ3_checkIndex_8e157_17 ⟨_, rfl, rfl, h⟩
set_option maxRecDepth 100000 in
set_option maxHeartbeats 4000000 in
theorem c_J0_checkIndex_df160 {l : Launch} {G : mgT} {μ : mmT} {x0 : Int32} {x1 : Int32} {Q : Prop} (h : w_J0_checkIndex_df160 G μ x0 x1 Q) : MC G l yJ0_checkIndex_df160 cJ0_checkIndex_df160 2 none { frames := 1, cells := 0, slots := 0, locals := 22 } [.int x0, .int x1] μ (pV (fun μ' => μ' = μ ∧ Q)) := by
  refine mz_MC (by decide +kernel) (Nat.le_of_ble_eq_true rfl) (fun p e s m args below meth c S hG hr hlk hnm => ?_)
  intro H locs ls hM hS hl
  have hl : lv_has ls 2 [(0, .int x0), (1, .int x1)] := hl
  unfold w_J0_checkIndex_df160 at h
  refine lv_iload_n S.1 S.2.1 dJ0_checkIndex_df160_0 rfl (lv_at hl 0 rfl) ?_
  refine lv_iload_n S.1 S.2.1 dJ0_checkIndex_df160_1 rfl (lv_at hl 1 rfl) ?_
  refine va_gets S.1 S.2.1 (hG.sio) hS S.2.2.2.1 (S.2.2.2.2 _ tw_855) (fun _ q => q) dJ0_checkIndex_df160_2 ?_
  refine mz_S S hG hM hS (As := [.int x0, .int x1, va_rf (gF G)]) (rest := []) (c_J3_checkIndex_8e157 h) yf_J3_checkIndex_8e157 tw_1023 tw_1024 ⟨Nat.le_of_ble_eq_true rfl, Nat.le_of_ble_eq_true rfl⟩ ⟨(Nat.le_of_ble_eq_true rfl), (Nat.le_of_ble_eq_true rfl)⟩ rfl hl.1 rfl (Nat.le_of_ble_eq_true rfl) dJ0_checkIndex_df160_5 (fun v9 μ9 H locs hp hM hS => ?_)
  obtain ⟨u1, rfl, e9, h⟩ := hp
  rw [e9] at hM
  refine W.cs (cells' := 0) (slots' := 0) rfl rfl ?_
  refine lv_pop S.1 S.2.1 dJ0_checkIndex_df160_8 rfl ?_
  exact mz_vret S hr hlk hM hS (Nat.le_of_ble_eq_true rfl) (Nat.le_of_ble_eq_true rfl) dJ0_checkIndex_df160_9 ⟨rfl, rfl, h⟩
set_option maxRecDepth 100000 in
set_option maxHeartbeats 4000000 in
theorem c_J1_charAt_3b067 {l : Launch} {G : mgT} {μ : mmT} {r0 : Option Nat} {x1 : Int32} {Q : Int32 → Prop} (h : w_J1_charAt_3b067 G μ r0 x1 Q) : MC G l yJ1_charAt_3b067 cJ1_charAt_3b067 2 (some .char) { frames := 2, cells := 0, slots := 0, locals := 43 } [va_rf r0, .int x1] μ (pI (fun r μ' => μ' = μ ∧ Q r)) := by
  refine mz_MC (by decide +kernel) (by simp [lg_sl, mz_cat, mz_cr, mz_ci, mz_cl, mz_cf, mz_cd, mz_cn]) (fun p e s m args below meth c S hG hr hlk hnm => ?_)
  intro H locs ls hM hS hl
  have hl : lv_has ls 2 [(0, va_rf r0), (1, .int x1)] := by simpa [lv_args, mz_cat, mz_cr, mz_ci, mz_cl, mz_cf, mz_cd, mz_cn] using hl
  unfold w_J1_charAt_3b067 at h
  refine lv_iload_n S.1 S.2.1 dJ1_charAt_3b067_0 rfl (lv_at hl 1 rfl) ?_
  refine mz_aload_n (x := r0) S.1 S.2.1 dJ1_charAt_3b067_1 rfl (lv_at hl 0 rfl) ?_
  obtain ⟨a1, e2, h⟩ := h
  refine mz_o0 e2 ?_
  obtain ⟨j3, q4, l5, h⟩ := h
  refine mz_txtL S hG hS l5 q4 dJ1_charAt_3b067_2 ?_
  refine mz_S S hG hM hS (As := [.int x1, .int (nI (gLen.getD j3 0))]) (rest := []) (c_J0_checkIndex_df160 h) yf_J0_checkIndex_df160 tw_1020 tw_1021 ⟨Nat.le_of_ble_eq_true rfl, Nat.le_of_ble_eq_true rfl⟩ ⟨(Nat.le_of_ble_eq_true rfl), (Nat.le_of_ble_eq_true rfl)⟩ rfl hl.1 rfl (Nat.le_of_ble_eq_true rfl) dJ1_charAt_3b067_3 (fun v9 μ9 H locs hp hM hS => ?_)
  obtain ⟨rfl, e9, h⟩ := hp
  rw [e9] at hM
  refine W.cs (cells' := 0) (slots' := 0) rfl rfl ?_
  refine mz_aload_n (x := r0) S.1 S.2.1 dJ1_charAt_3b067_6 rfl (lv_at hl 0 rfl) ?_
  refine lv_iload_n S.1 S.2.1 dJ1_charAt_3b067_7 rfl (lv_at hl 1 rfl) ?_
  refine mz_o1 e2 ?_
  obtain ⟨b6, h⟩ := h
  refine mz_txtA S hG hS l5 q4 b6 dJ1_charAt_3b067_8 ?_
  refine lv_sipush (v := (nI 255)) S.1 S.2.1 dJ1_charAt_3b067_9 (by decide) ?_
  refine lv_iand S.1 S.2.1 dJ1_charAt_3b067_12 ?_
  refine lv_i2c S.1 S.2.1 dJ1_charAt_3b067_13 rfl ?_
  obtain ⟨f7, h⟩ := h
  exact mz_iret S hr hlk hM hS (mz_nC f7) (Nat.le_of_ble_eq_true rfl) (Nat.le_of_ble_eq_true rfl) dJ1_charAt_3b067_14 ⟨_, rfl, rfl, h⟩
set_option maxRecDepth 100000 in
set_option maxHeartbeats 4000000 in
theorem c_J0_charAt_5068e {l : Launch} {G : mgT} {μ : mmT} {o : Nat} {x1 : Int32} {Q : Int32 → Prop} (h : w_J0_charAt_5068e G μ o x1 Q) : MC G l yJ0_charAt_5068e cJ0_charAt_5068e 2 (some .char) { frames := 3, cells := 0, slots := 0, locals := 64 } [.ref o, .int x1] μ (pI (fun r μ' => μ' = μ ∧ Q r)) := by
  refine mz_MC (by decide +kernel) (Nat.le_of_ble_eq_true rfl) (fun p e s m args below meth c S hG hr hlk hnm => ?_)
  intro H locs ls hM hS hl
  have hl : lv_has ls 2 [(0, .ref o), (1, .int x1)] := hl
  unfold w_J0_charAt_5068e at h
  refine lv_aload_n S.1 S.2.1 dJ0_charAt_5068e_0 rfl (lv_at hl 0 rfl) ?_
  obtain ⟨j1, q2, l3, h⟩ := h
  refine mz_V0 S hG hM hS (mz_recvO (by rw [q2]; exact (hG.txt j1 l3).1) hS) (As := []) (rest := []) (c_J0_isLatin1_aae02 h) yf_J0_isLatin1_aae02 tw_1013 tw_1014 (S.2.2.2.2 _ tw_1015) ⟨Nat.le_of_ble_eq_true rfl, Nat.le_of_ble_eq_true rfl⟩ ⟨(Nat.le_of_ble_eq_true rfl), (Nat.le_of_ble_eq_true rfl)⟩ rfl hl.1 rfl (Nat.le_of_ble_eq_true rfl) dJ0_charAt_5068e_1 (fun v9 μ9 H locs hp hM hS => ?_)
  obtain ⟨u4, rfl, e9, h⟩ := hp
  rw [e9] at hM
  refine W.cs (cells' := 0) (slots' := 0) rfl rfl ?_
  obtain ⟨c5, h⟩ := h
  refine lv_if_eq (tgt := 16) S.1 S.2.1 dJ0_charAt_5068e_4 (by decide) (fun c => absurd c c5) (fun _ => ?_)
  refine lv_aload_n S.1 S.2.1 dJ0_charAt_5068e_7 rfl (lv_at hl 0 rfl) ?_
  refine mz_tops (congrArg Value.ref q2) ?_
  refine vk_getf S.1 S.2.1 (hG.txt j1 l3).2.2.1 hS S.2.2.2.1 (S.2.2.2.2 _ tw_995) (fun _ q => q) dJ0_charAt_5068e_8 ?_
  refine lv_iload_n S.1 S.2.1 dJ0_charAt_5068e_11 rfl (lv_at hl 1 rfl) ?_
  refine mz_S S hG hM hS (As := [.ref (gV G j1), .int x1]) (rest := []) (c_J1_charAt_3b067 h) yf_J1_charAt_3b067 tw_1017 tw_1018 ⟨Nat.le_of_ble_eq_true rfl, Nat.le_of_ble_eq_true rfl⟩ ⟨(Nat.le_of_ble_eq_true rfl), (Nat.le_of_ble_eq_true rfl)⟩ rfl hl.1 rfl (Nat.le_of_ble_eq_true rfl) dJ0_charAt_5068e_12 (fun v9 μ9 H locs hp hM hS => ?_)
  obtain ⟨u6, rfl, e9, h⟩ := hp
  rw [e9] at hM
  refine W.cs (cells' := 0) (slots' := 0) rfl rfl ?_
  obtain ⟨f7, h⟩ := h
  exact mz_iret S hr hlk hM hS (mz_nC f7) (Nat.le_of_ble_eq_true rfl) (Nat.le_of_ble_eq_true rfl) dJ0_charAt_5068e_15 ⟨_, rfl, rfl, h⟩
set_option maxRecDepth 100000 in
set_option maxHeartbeats 4000000 in
theorem c_X7_isDigitAt {l : Launch} {G : mgT} {μ : mmT} {o : Nat} {x1 : Int32} {Q : Int32 → Prop} (h : w_X7_isDigitAt G μ o x1 Q) : MC G l yX7_isDigitAt cX7_isDigitAt 2 (some .boolean) { frames := 0, cells := 0, slots := 0, locals := 0 } [.ref o, .int x1] μ (pI (fun r μ' => μ' = μ ∧ Q r)) := by
  refine mz_MC (by decide +kernel) (Nat.le_of_ble_eq_true rfl) (fun p e s m args below meth c S hG hr hlk hnm => ?_)
  have hB39 : ∀ (s0 : Int32) (H : Heap) (locs : List Loc) (ls : Array Slot), Mm G μ H → va_S (Ah G) s.heap H locs → lv_has ls 2 [(0, .ref o)] → w_X7_isDigitAt_b39 G μ o Q  s0 → W p l e { frames := 0, cells := 0, slots := 0, locals := 0 } s m args below meth c H locs (0) (0) (MQ below (mQ G (pI (fun r μ' => μ' = μ ∧ Q r))) args s 0 0 (Ah G)) (F0 m 39 ls [.int s0]) := by
    intro  s0 H locs ls hM hS hl h
    unfold w_X7_isDigitAt_b39 at h
    obtain ⟨f2, h⟩ := h
    exact mz_iret S hr hlk hM hS (mz_nZ f2) (Nat.le_of_ble_eq_true rfl) (Nat.le_of_ble_eq_true rfl) dX7_isDigitAt_39 ⟨_, rfl, rfl, h⟩
  have hB38 : ∀  (H : Heap) (locs : List Loc) (ls : Array Slot), Mm G μ H → va_S (Ah G) s.heap H locs → lv_has ls 2 [(0, .ref o)] → w_X7_isDigitAt_b38 G μ o Q   → W p l e { frames := 0, cells := 0, slots := 0, locals := 0 } s m args below meth c H locs (0) (0) (MQ below (mQ G (pI (fun r μ' => μ' = μ ∧ Q r))) args s 0 0 (Ah G)) (F0 m 38 ls []) := by
    intro   H locs ls hM hS hl h
    unfold w_X7_isDigitAt_b38 at h
    refine lv_iconst (v := (nI 0)) S.1 S.2.1 dX7_isDigitAt_38 (by decide) ?_
    exact hB39  (nI 0) H locs ls hM hS (lv_sub hl [0] rfl) h
  intro H locs ls hM hS hl
  have hl : lv_has ls 2 [(0, .ref o), (1, .int x1)] := hl
  unfold w_X7_isDigitAt at h
  refine lv_iload_n S.1 S.2.1 dX7_isDigitAt_0 rfl (lv_at hl 1 rfl) ?_
  refine lv_if_lt (tgt := 38) S.1 S.2.1 dX7_isDigitAt_1 (by decide) (fun c1 => ?_) (fun c1 => ?_)
  · have h := h.1 c1
    exact hB38   H locs ls hM hS (lv_sub hl [0] rfl) h
  · have h := h.2 c1
    refine lv_iload_n S.1 S.2.1 dX7_isDigitAt_4 rfl (lv_at hl 1 rfl) ?_
    refine lv_aload_n S.1 S.2.1 dX7_isDigitAt_5 rfl (lv_at hl 0 rfl) ?_
    obtain ⟨k3, h⟩ := h
    refine mz_geti S hG hM cf_6 fd_194 tw_282 dX7_isDigitAt_6 k3 ?_
    refine lv_icmp_ge (tgt := 38) S.1 S.2.1 dX7_isDigitAt_9 (by decide) (fun c4 => ?_) (fun c4 => ?_)
    · have h := h.1 c4
      exact hB38   H locs ls hM hS (lv_sub hl [0] rfl) h
    · have h := h.2 c4
      refine lv_aload_n S.1 S.2.1 dX7_isDigitAt_12 rfl (lv_at hl 0 rfl) ?_
      refine mz_getr S hG hM cf_6 fd_192 tw_279 dX7_isDigitAt_13 k3 ?_
      refine lv_iload_n S.1 S.2.1 dX7_isDigitAt_16 rfl (lv_at hl 1 rfl) ?_
      obtain ⟨a5, e6, h⟩ := h
      refine mz_o1 e6 ?_
      obtain ⟨k7, h⟩ := h
      obtain ⟨b8, h⟩ := h
      refine mz_cald S hG hM dX7_isDigitAt_17 k7 b8 ?_
      refine lv_bipush (v := (nI 48)) S.1 S.2.1 dX7_isDigitAt_18 (by decide) ?_
      refine lv_icmp_lt (tgt := 38) S.1 S.2.1 dX7_isDigitAt_20 (by decide) (fun c9 => ?_) (fun c9 => ?_)
      · have h := h.1 c9
        exact hB38   H locs ls hM hS (lv_sub hl [0] rfl) h
      · have h := h.2 c9
        refine lv_aload_n S.1 S.2.1 dX7_isDigitAt_23 rfl (lv_at hl 0 rfl) ?_
        refine mz_getr S hG hM cf_6 fd_192 tw_279 dX7_isDigitAt_24 k3 ?_
        refine lv_iload_n S.1 S.2.1 dX7_isDigitAt_27 rfl (lv_at hl 1 rfl) ?_
        refine mz_o1 e6 ?_
        obtain ⟨b10, h⟩ := h
        refine mz_cald S hG hM dX7_isDigitAt_28 k7 b10 ?_
        refine lv_bipush (v := (nI 57)) S.1 S.2.1 dX7_isDigitAt_29 (by decide) ?_
        refine lv_icmp_gt (tgt := 38) S.1 S.2.1 dX7_isDigitAt_31 (by decide) (fun c11 => ?_) (fun c11 => ?_)
        · have h := h.1 c11
          exact hB38   H locs ls hM hS (lv_sub hl [0] rfl) h
        · have h := h.2 c11
          refine lv_iconst (v := (nI 1)) S.1 S.2.1 dX7_isDigitAt_34 (by decide) ?_
          refine lv_goto (tgt := 39) S.1 S.2.1 dX7_isDigitAt_35 (by decide) ?_
          exact hB39  (nI 1) H locs ls hM hS (lv_sub hl [0] rfl) h
set_option maxRecDepth 100000 in
set_option maxHeartbeats 4000000 in
theorem c_X7_readNumber {l : Launch} {G : mgT} {μ : mmT} {o : Nat} {x1 : Int32} {x2 : Int32} {Q : Int32 → mmT → Prop} (h : w_X7_readNumber G μ o x1 x2 Q) : MC G l yX7_readNumber cX7_readNumber 6 (some .int) { frames := 1, cells := 0, slots := 0, locals := 21 } [.ref o, .int x1, .int x2] μ (pI Q) := by
  refine mz_MC (by decide +kernel) (Nat.le_of_ble_eq_true rfl) (fun p e s m args below meth c S hG hr hlk hnm => ?_)
  have hB71 : ∀ (x3 : Int32) (μ : mmT) (H : Heap) (locs : List Loc) (ls : Array Slot), Mm G μ H → va_S (Ah G) s.heap H locs → lv_has ls 6 [(0, .ref o), (3, .int x3)] → w_X7_readNumber_b71 G o Q  x3 μ → W p l e { frames := 1, cells := 0, slots := 0, locals := 21 } s m args below meth c H locs (0) (0) (MQ below (mQ G (pI Q)) args s 0 0 (Ah G)) (F0 m 71 ls []) := by
    intro  x3 μ H locs ls hM hS hl h
    unfold w_X7_readNumber_b71 at h
    refine lv_aload_n S.1 S.2.1 dX7_readNumber_71 rfl (lv_at hl 0 rfl) ?_
    refine lv_dup S.1 S.2.1 dX7_readNumber_72 rfl ?_
    obtain ⟨k4, h⟩ := h
    refine mz_geti S hG hM cf_6 fd_197 tw_288 dX7_readNumber_73 k4 ?_
    refine lv_iconst (v := (nI 1)) S.1 S.2.1 dX7_readNumber_76 (by decide) ?_
    refine lv_iadd S.1 S.2.1 dX7_readNumber_77 ?_
    refine mz_puti S hG hM hS cf_6 fd_197 tw_288 dX7_readNumber_78 k4 rfl rfl (fun H locs hM hS hz9 => ?_)
    refine lv_iload_n S.1 S.2.1 dX7_readNumber_81 rfl (lv_at hl 1 rfl) ?_
    exact mz_iret S hr hlk hM hS rfl (Nat.le_of_ble_eq_true rfl) (Nat.le_of_ble_eq_true rfl) dX7_readNumber_82 ⟨_, rfl, h⟩
  have hB49 : ∀ (x3 : Int32) (x4 : Int32) (μ : mmT) (H : Heap) (locs : List Loc) (ls : Array Slot), Mm G μ H → va_S (Ah G) s.heap H locs → lv_has ls 6 [(0, .ref o), (3, .int x3), (4, .int x4)] → w_X7_readNumber_b49 G o Q  x3 x4 μ → W p l e { frames := 1, cells := 0, slots := 0, locals := 21 } s m args below meth c H locs (0) (0) (MQ below (mQ G (pI Q)) args s 0 0 (Ah G)) (F0 m 49 ls []) := by
    intro  x3 x4 μ H locs ls hM hS hl h
    unfold w_X7_readNumber_b49 at h
    refine lv_aload_n S.1 S.2.1 dX7_readNumber_49 rfl (lv_at hl 0 rfl) ?_
    obtain ⟨k2, h⟩ := h
    refine mz_geti S hG hM cf_6 fd_197 tw_288 dX7_readNumber_50 k2 ?_
    refine lv_if_ne (tgt := 65) S.1 S.2.1 dX7_readNumber_53 (by decide) (fun c3 => ?_) (fun c3 => ?_)
    · have h := h.1 c3
      refine lv_aload_n S.1 S.2.1 dX7_readNumber_65 rfl (lv_at hl 0 rfl) ?_
      refine lv_iload S.1 S.2.1 dX7_readNumber_66 (lv_at hl 2 rfl) ?_
      refine mz_puti S hG hM hS cf_6 fd_199 tw_290 dX7_readNumber_68 k2 rfl rfl (fun H locs hM hS hz9 => ?_)
      exact hB71  x3 (sI μ 199 o x4) H locs ls hM hS (lv_sub hl [0, 1] rfl) h
    · have h := h.2 c3
      refine lv_aload_n S.1 S.2.1 dX7_readNumber_56 rfl (lv_at hl 0 rfl) ?_
      refine lv_iload S.1 S.2.1 dX7_readNumber_57 (lv_at hl 2 rfl) ?_
      refine mz_puti S hG hM hS cf_6 fd_198 tw_289 dX7_readNumber_59 k2 rfl rfl (fun H locs hM hS hz9 => ?_)
      refine lv_goto (tgt := 71) S.1 S.2.1 dX7_readNumber_62 (by decide) ?_
      exact hB71  x3 (sI μ 198 o x4) H locs ls hM hS (lv_sub hl [0, 1] rfl) h
  have hB8 : ∀ (n : Nat) (x2 : Int32) (x3 : Int32) (x4 : Int32) (x5 : Int32) (μ : mmT) (H : Heap) (locs : List Loc) (ls : Array Slot), Mm G μ H → va_S (Ah G) s.heap H locs → lv_has ls 6 [(0, .ref o), (2, .int x2), (3, .int x3), (4, .int x4), (5, .int x5)] → w_X7_readNumber_l8 G o Q  n x2 x3 x4 x5 μ → W p l e { frames := 1, cells := 0, slots := 0, locals := 21 } s m args below meth c H locs (0) (0) (MQ below (mQ G (pI Q)) args s 0 0 (Ah G)) (F0 m 8 ls []) := by
    intro  n
    induction n with
    | zero =>
      intro x2 x3 x4 x5 μ H locs ls hM hS hl h
      exact False.elim h
    | succ n ih =>
      intro x2 x3 x4 x5 μ H locs ls hM hS hl h
      have h : w_X7_readNumber_b8 G o Q  (w_X7_readNumber_l8 G o Q  n) x2 x3 x4 x5 μ := h
      unfold w_X7_readNumber_b8 at h
      refine lv_iload_n S.1 S.2.1 dX7_readNumber_8 rfl (lv_at hl 2 rfl) ?_
      refine lv_iload_n S.1 S.2.1 dX7_readNumber_9 rfl (lv_at hl 1 rfl) ?_
      refine lv_icmp_ge (tgt := 49) S.1 S.2.1 dX7_readNumber_10 (by decide) (fun c1 => ?_) (fun c1 => ?_)
      · have h := h.1 c1
        exact hB49  x3 x4 μ H locs ls hM hS (lv_sub hl [0, 2, 3] rfl) h
      · have h := h.2 c1
        refine lv_aload_n S.1 S.2.1 dX7_readNumber_13 rfl (lv_at hl 0 rfl) ?_
        refine lv_iload S.1 S.2.1 dX7_readNumber_14 (lv_at hl 4 rfl) ?_
        obtain ⟨k5, h⟩ := h
        refine mz_V S hG hM hS cf_6 k5 (As := [.int x5]) (rest := []) (c_X7_isDigitAt h) yf_X7_isDigitAt tw_1077 tw_1079 ts_16 ⟨Nat.le_of_ble_eq_true rfl, Nat.le_of_ble_eq_true rfl⟩ ⟨(Nat.le_of_ble_eq_true rfl), (Nat.le_of_ble_eq_true rfl)⟩ rfl hl.1 rfl (Nat.le_of_ble_eq_true rfl) dX7_readNumber_16 (fun v9 μ9 H locs hp hM hS => ?_)
        obtain ⟨u6, rfl, e9, h⟩ := hp
        rw [e9] at hM
        refine W.cs (cells' := 0) (slots' := 0) rfl rfl ?_
        refine lv_if_eq (tgt := 49) S.1 S.2.1 dX7_readNumber_19 (by decide) (fun c7 => ?_) (fun c7 => ?_)
        · have h := h.1 c7
          exact hB49  x3 x4 μ H locs ls hM hS (lv_sub hl [0, 2, 3] rfl) h
        · have h := h.2 c7
          refine lv_iload S.1 S.2.1 dX7_readNumber_22 (lv_at hl 3 rfl) ?_
          refine lv_bipush (v := (nI 10)) S.1 S.2.1 dX7_readNumber_24 (by decide) ?_
          refine lv_imul S.1 S.2.1 dX7_readNumber_26 ?_
          refine lv_aload_n S.1 S.2.1 dX7_readNumber_27 rfl (lv_at hl 0 rfl) ?_
          refine mz_getr S hG hM cf_6 fd_192 tw_279 dX7_readNumber_28 k5 ?_
          refine lv_iload S.1 S.2.1 dX7_readNumber_31 (lv_at hl 4 rfl) ?_
          obtain ⟨a8, e9, h⟩ := h
          refine mz_o1 e9 ?_
          obtain ⟨k10, h⟩ := h
          obtain ⟨b11, h⟩ := h
          refine mz_cald S hG hM dX7_readNumber_33 k10 b11 ?_
          refine lv_iadd S.1 S.2.1 dX7_readNumber_34 ?_
          refine lv_bipush (v := (nI 48)) S.1 S.2.1 dX7_readNumber_35 (by decide) ?_
          refine lv_isub S.1 S.2.1 dX7_readNumber_37 ?_
          refine lv_istore (lv' := [(4, .int (((x4 * (nI 10)) + (mA μ a8 x5.toNatClampNeg)) - (nI 48))), (0, .ref o), (2, .int x2), (3, .int x3), (5, .int x5)]) S.1 S.2.1 dX7_readNumber_38 hl (by decide) rfl (fun ls hl => ?_)
          refine lv_iinc (v := (x3 + nI 1)) (lv' := [(3, .int (x3 + nI 1)), (4, .int (((x4 * (nI 10)) + (mA μ a8 x5.toNatClampNeg)) - (nI 48))), (0, .ref o), (2, .int x2), (5, .int x5)]) S.1 S.2.1 dX7_readNumber_40 hl (k := 3) rfl rfl (by decide) rfl (fun ls hl => ?_)
          refine lv_iinc (v := (x5 + nI 1)) (lv' := [(5, .int (x5 + nI 1)), (3, .int (x3 + nI 1)), (4, .int (((x4 * (nI 10)) + (mA μ a8 x5.toNatClampNeg)) - (nI 48))), (0, .ref o), (2, .int x2)]) S.1 S.2.1 dX7_readNumber_43 hl (k := 4) rfl rfl (by decide) rfl (fun ls hl => ?_)
          refine lv_goto (tgt := 8) S.1 S.2.1 dX7_readNumber_46 (by decide) ?_
          exact ih x2 (x3 + nI 1) (((x4 * (nI 10)) + (mA μ a8 x5.toNatClampNeg)) - (nI 48)) (x5 + nI 1) μ H locs ls hM hS (lv_sub hl [3, 4, 1, 2, 0] rfl) h
  intro H locs ls hM hS hl
  have hl : lv_has ls 6 [(0, .ref o), (1, .int x1), (2, .int x2)] := hl
  unfold w_X7_readNumber at h
  refine lv_iconst (v := (nI 0)) S.1 S.2.1 dX7_readNumber_0 (by decide) ?_
  refine lv_istore_n (lv' := [(3, .int (nI 0)), (0, .ref o), (1, .int x1), (2, .int x2)]) S.1 S.2.1 dX7_readNumber_1 rfl hl (by decide) rfl (fun ls hl => ?_)
  refine lv_iconst (v := (nI 0)) S.1 S.2.1 dX7_readNumber_2 (by decide) ?_
  refine lv_istore (lv' := [(4, .int (nI 0)), (3, .int (nI 0)), (0, .ref o), (1, .int x1), (2, .int x2)]) S.1 S.2.1 dX7_readNumber_3 hl (by decide) rfl (fun ls hl => ?_)
  refine lv_iload_n S.1 S.2.1 dX7_readNumber_5 rfl (lv_at hl 3 rfl) ?_
  refine lv_istore (lv' := [(5, .int x1), (4, .int (nI 0)), (3, .int (nI 0)), (0, .ref o), (1, .int x1), (2, .int x2)]) S.1 S.2.1 dX7_readNumber_6 hl (by decide) rfl (fun ls hl => ?_)
  obtain ⟨n9, h⟩ := h
  exact hB8  n9 x2 (nI 0) (nI 0) x1 μ H locs ls hM hS (lv_sub hl [3, 5, 2, 1, 0] rfl) h
set_option maxRecDepth 100000 in
set_option maxHeartbeats 4000000 in
theorem c_X7_widthOf {l : Launch} {G : mgT} {μ : mmT} {o : Nat} {x1 : Int32} {x2 : Int32} {Q : Int32 → mmT → Prop} (h : w_X7_widthOf G μ o x1 x2 Q) : MC G l yX7_widthOf cX7_widthOf 3 (some .int) { frames := 2, cells := 0, slots := 0, locals := 46 } [.ref o, .int x1, .int x2] μ (pI Q) := by
  refine mz_MC (by decide +kernel) (Nat.le_of_ble_eq_true rfl) (fun p e s m args below meth c S hG hr hlk hnm => ?_)
  have hB53 : ∀ (s0 : Int32) (μ : mmT) (H : Heap) (locs : List Loc) (ls : Array Slot), Mm G μ H → va_S (Ah G) s.heap H locs → lv_has ls 3 [(0, .ref o)] → w_X7_widthOf_b53 G o Q  s0 μ → W p l e { frames := 2, cells := 0, slots := 0, locals := 46 } s m args below meth c H locs (0) (0) (MQ below (mQ G (pI Q)) args s 0 0 (Ah G)) (F0 m 53 ls [.int s0]) := by
    intro  s0 μ H locs ls hM hS hl h
    unfold w_X7_widthOf_b53 at h
    exact mz_iret S hr hlk hM hS rfl (Nat.le_of_ble_eq_true rfl) (Nat.le_of_ble_eq_true rfl) dX7_widthOf_53 ⟨_, rfl, h⟩
  have hB52 : ∀ (μ : mmT) (H : Heap) (locs : List Loc) (ls : Array Slot), Mm G μ H → va_S (Ah G) s.heap H locs → lv_has ls 3 [(0, .ref o)] → w_X7_widthOf_b52 G o Q  μ → W p l e { frames := 2, cells := 0, slots := 0, locals := 46 } s m args below meth c H locs (0) (0) (MQ below (mQ G (pI Q)) args s 0 0 (Ah G)) (F0 m 52 ls []) := by
    intro  μ H locs ls hM hS hl h
    unfold w_X7_widthOf_b52 at h
    refine lv_iconst (v := (nI 0)) S.1 S.2.1 dX7_widthOf_52 (by decide) ?_
    exact hB53  (nI 0) μ H locs ls hM hS (lv_sub hl [0] rfl) h
  intro H locs ls hM hS hl
  have hl : lv_has ls 3 [(0, .ref o), (1, .int x1), (2, .int x2)] := hl
  unfold w_X7_widthOf at h
  refine lv_iload_n S.1 S.2.1 dX7_widthOf_0 rfl (lv_at hl 1 rfl) ?_
  refine lv_bipush (v := (nI 35)) S.1 S.2.1 dX7_widthOf_1 (by decide) ?_
  refine lv_icmp_ne (tgt := 13) S.1 S.2.1 dX7_widthOf_3 (by decide) (fun c1 => ?_) (fun c1 => ?_)
  · have h := h.1 c1
    refine lv_iload_n S.1 S.2.1 dX7_widthOf_13 rfl (lv_at hl 1 rfl) ?_
    refine lv_bipush (v := (nI 37)) S.1 S.2.1 dX7_widthOf_14 (by decide) ?_
    refine lv_icmp_ne (tgt := 26) S.1 S.2.1 dX7_widthOf_16 (by decide) (fun c2 => ?_) (fun c2 => ?_)
    · have h := h.1 c2
      refine lv_iload_n S.1 S.2.1 dX7_widthOf_26 rfl (lv_at hl 2 rfl) ?_
      refine lv_if_lt (tgt := 52) S.1 S.2.1 dX7_widthOf_27 (by decide) (fun c3 => ?_) (fun c3 => ?_)
      · have h := h.1 c3
        exact hB52  μ H locs ls hM hS (lv_sub hl [0] rfl) h
      · have h := h.2 c3
        refine lv_iload_n S.1 S.2.1 dX7_widthOf_30 rfl (lv_at hl 2 rfl) ?_
        refine lv_aload_n S.1 S.2.1 dX7_widthOf_31 rfl (lv_at hl 0 rfl) ?_
        obtain ⟨k4, h⟩ := h
        refine mz_geti S hG hM cf_6 fd_194 tw_282 dX7_widthOf_32 k4 ?_
        refine lv_icmp_ge (tgt := 52) S.1 S.2.1 dX7_widthOf_35 (by decide) (fun c5 => ?_) (fun c5 => ?_)
        · have h := h.1 c5
          exact hB52  μ H locs ls hM hS (lv_sub hl [0] rfl) h
        · have h := h.2 c5
          refine lv_aload_n S.1 S.2.1 dX7_widthOf_38 rfl (lv_at hl 0 rfl) ?_
          refine mz_getr S hG hM cf_6 fd_192 tw_279 dX7_widthOf_39 k4 ?_
          refine lv_iload_n S.1 S.2.1 dX7_widthOf_42 rfl (lv_at hl 2 rfl) ?_
          obtain ⟨a6, e7, h⟩ := h
          refine mz_o1 e7 ?_
          obtain ⟨k8, h⟩ := h
          obtain ⟨b9, h⟩ := h
          refine mz_cald S hG hM dX7_widthOf_43 k8 b9 ?_
          refine lv_iload_n S.1 S.2.1 dX7_widthOf_44 rfl (lv_at hl 1 rfl) ?_
          refine lv_icmp_ne (tgt := 52) S.1 S.2.1 dX7_widthOf_45 (by decide) (fun c10 => ?_) (fun c10 => ?_)
          · have h := h.1 c10
            exact hB52  μ H locs ls hM hS (lv_sub hl [0] rfl) h
          · have h := h.2 c10
            refine lv_iconst (v := (nI 1)) S.1 S.2.1 dX7_widthOf_48 (by decide) ?_
            refine lv_goto (tgt := 53) S.1 S.2.1 dX7_widthOf_49 (by decide) ?_
            exact hB53  (nI 1) μ H locs ls hM hS (lv_sub hl [0] rfl) h
    · have h := h.2 c2
      refine lv_aload_n S.1 S.2.1 dX7_widthOf_19 rfl (lv_at hl 0 rfl) ?_
      refine lv_iload_n S.1 S.2.1 dX7_widthOf_20 rfl (lv_at hl 2 rfl) ?_
      refine lv_iconst (v := (nI 3)) S.1 S.2.1 dX7_widthOf_21 (by decide) ?_
      obtain ⟨k11, h⟩ := h
      refine mz_V S hG hM hS cf_6 k11 (As := [.int x2, .int (nI 3)]) (rest := []) (c_X7_readNumber h) yf_X7_readNumber tw_1073 tw_1075 ts_15 ⟨Nat.le_of_ble_eq_true rfl, Nat.le_of_ble_eq_true rfl⟩ ⟨(Nat.le_of_ble_eq_true rfl), (Nat.le_of_ble_eq_true rfl)⟩ rfl hl.1 rfl (Nat.le_of_ble_eq_true rfl) dX7_widthOf_22 (fun v9 μ13 H locs hp hM hS => ?_)
      obtain ⟨u12, rfl, h⟩ := hp
      refine W.cs (cells' := 0) (slots' := 0) rfl rfl ?_
      exact mz_iret S hr hlk hM hS rfl (Nat.le_of_ble_eq_true rfl) (Nat.le_of_ble_eq_true rfl) dX7_widthOf_25 ⟨_, rfl, h⟩
  · have h := h.2 c1
    refine lv_aload_n S.1 S.2.1 dX7_widthOf_6 rfl (lv_at hl 0 rfl) ?_
    refine lv_iload_n S.1 S.2.1 dX7_widthOf_7 rfl (lv_at hl 2 rfl) ?_
    refine lv_iconst (v := (nI 1)) S.1 S.2.1 dX7_widthOf_8 (by decide) ?_
    obtain ⟨k14, h⟩ := h
    refine mz_V S hG hM hS cf_6 k14 (As := [.int x2, .int (nI 1)]) (rest := []) (c_X7_readNumber h) yf_X7_readNumber tw_1073 tw_1075 ts_15 ⟨Nat.le_of_ble_eq_true rfl, Nat.le_of_ble_eq_true rfl⟩ ⟨(Nat.le_of_ble_eq_true rfl), (Nat.le_of_ble_eq_true rfl)⟩ rfl hl.1 rfl (Nat.le_of_ble_eq_true rfl) dX7_widthOf_9 (fun v9 μ16 H locs hp hM hS => ?_)
    obtain ⟨u15, rfl, h⟩ := hp
    refine W.cs (cells' := 0) (slots' := 0) rfl rfl ?_
    exact mz_iret S hr hlk hM hS rfl (Nat.le_of_ble_eq_true rfl) (Nat.le_of_ble_eq_true rfl) dX7_widthOf_12 ⟨_, rfl, h⟩
set_option maxRecDepth 100000 in
set_option maxHeartbeats 4000000 in
theorem c_X7_match {l : Launch} {G : mgT} {μ : mmT} {o : Nat} {r1 : Option Nat} {x2 : Int32} {Q : Int32 → mmT → Prop} (h : w_X7_match G μ o r1 x2 Q) : MC G l yX7_match cX7_match 6 (some .int) { frames := 4, cells := 0, slots := 0, locals := 85 } [.ref o, va_rf r1, .int x2] μ (pI Q) := by
  refine mz_MC (by decide +kernel) (by simp [lg_sl, mz_cat, mz_cr, mz_ci, mz_cl, mz_cf, mz_cd, mz_cn]) (fun p e s m args below meth c S hG hr hlk hnm => ?_)
  have hB15 : ∀ (n : Nat) (r1 : Option Nat) (x3 : Int32) (x4 : Int32) (μ : mmT) (H : Heap) (locs : List Loc) (ls : Array Slot), Mm G μ H → va_S (Ah G) s.heap H locs → lv_has ls 6 [(0, .ref o), (1, va_rf r1), (3, .int x3), (4, .int x4)] → w_X7_match_l15 G o Q  n r1 x3 x4 μ → W p l e { frames := 4, cells := 0, slots := 0, locals := 85 } s m args below meth c H locs (0) (0) (MQ below (mQ G (pI Q)) args s 0 0 (Ah G)) (F0 m 15 ls []) := by
    intro  n
    induction n with
    | zero =>
      intro r1 x3 x4 μ H locs ls hM hS hl h
      exact False.elim h
    | succ n ih =>
      intro r1 x3 x4 μ H locs ls hM hS hl h
      have h : w_X7_match_b15 G o Q  (w_X7_match_l15 G o Q  n) r1 x3 x4 μ := h
      unfold w_X7_match_b15 at h
      refine lv_iload S.1 S.2.1 dX7_match_15 (lv_at hl 3 rfl) ?_
      refine mz_aload_n (x := r1) S.1 S.2.1 dX7_match_17 rfl (lv_at hl 1 rfl) ?_
      obtain ⟨a2, e3, h⟩ := h
      refine mz_o0 e3 ?_
      obtain ⟨j4, q5, l6, h⟩ := h
      refine mz_V0 S hG hM hS (mz_recvO (by rw [q5]; exact (hG.txt j4 l6).1) hS) (As := []) (rest := [.int x4]) (c_J0_length_8abf5 h) yf_J0_length_8abf5 tw_1067 tw_870 (S.2.2.2.2 _ tw_871) ⟨Nat.le_of_ble_eq_true rfl, Nat.le_of_ble_eq_true rfl⟩ ⟨(Nat.le_of_ble_eq_true rfl), (Nat.le_of_ble_eq_true rfl)⟩ rfl hl.1 rfl (Nat.le_of_ble_eq_true rfl) dX7_match_18 (fun v9 μ9 H locs hp hM hS => ?_)
      obtain ⟨u7, rfl, e9, h⟩ := hp
      rw [e9] at hM
      refine W.cs (cells' := 0) (slots' := 0) rfl rfl ?_
      refine lv_icmp_ge (tgt := 55) S.1 S.2.1 dX7_match_21 (by decide) (fun c8 => ?_) (fun c8 => ?_)
      · have h := h.1 c8
        refine lv_aload_n S.1 S.2.1 dX7_match_55 rfl (lv_at hl 0 rfl) ?_
        refine lv_iconst (v := (nI 1)) S.1 S.2.1 dX7_match_56 (by decide) ?_
        obtain ⟨k9, h⟩ := h
        refine mz_puti S hG hM hS cf_6 fd_200 tw_291 dX7_match_57 k9 rfl rfl (fun H locs hM hS hz9 => ?_)
        refine lv_iload_n S.1 S.2.1 dX7_match_60 rfl (lv_at hl 2 rfl) ?_
        exact mz_iret S hr hlk hM hS rfl (Nat.le_of_ble_eq_true rfl) (Nat.le_of_ble_eq_true rfl) dX7_match_61 ⟨_, rfl, h⟩
      · have h := h.2 c8
        refine lv_aload_n S.1 S.2.1 dX7_match_24 rfl (lv_at hl 0 rfl) ?_
        refine mz_aload_n (x := r1) S.1 S.2.1 dX7_match_25 rfl (lv_at hl 1 rfl) ?_
        refine lv_iload S.1 S.2.1 dX7_match_26 (lv_at hl 3 rfl) ?_
        refine mz_o1 e3 ?_
        refine mz_V0 S hG hM hS (mz_recvO (by rw [q5]; exact (hG.txt j4 l6).1) hS) (As := [.int x4]) (rest := [.ref o]) (c_J0_charAt_5068e h) yf_J0_charAt_5068e tw_1068 tw_1010 (S.2.2.2.2 _ tw_1011) ⟨Nat.le_of_ble_eq_true rfl, Nat.le_of_ble_eq_true rfl⟩ ⟨(Nat.le_of_ble_eq_true rfl), (Nat.le_of_ble_eq_true rfl)⟩ rfl hl.1 rfl (Nat.le_of_ble_eq_true rfl) dX7_match_28 (fun v9 μ9 H locs hp hM hS => ?_)
        obtain ⟨u10, rfl, e9, h⟩ := hp
        rw [e9] at hM
        refine W.cs (cells' := 0) (slots' := 0) rfl rfl ?_
        refine lv_iload_n S.1 S.2.1 dX7_match_31 rfl (lv_at hl 2 rfl) ?_
        obtain ⟨k11, h⟩ := h
        refine mz_V S hG hM hS cf_6 k11 (As := [.int u10, .int x3]) (rest := []) (c_X7_widthOf h) yf_X7_widthOf tw_1069 tw_1071 ts_14 ⟨Nat.le_of_ble_eq_true rfl, Nat.le_of_ble_eq_true rfl⟩ ⟨(Nat.le_of_ble_eq_true rfl), (Nat.le_of_ble_eq_true rfl)⟩ rfl hl.1 rfl (Nat.le_of_ble_eq_true rfl) dX7_match_32 (fun v9 μ13 H locs hp hM hS => ?_)
        obtain ⟨u12, rfl, h⟩ := hp
        refine W.cs (cells' := 0) (slots' := 0) rfl rfl ?_
        refine lv_istore (lv' := [(5, .int u12), (0, .ref o), (1, va_rf r1), (3, .int x3), (4, .int x4)]) S.1 S.2.1 dX7_match_35 hl (by decide) rfl (fun ls hl => ?_)
        refine lv_iload S.1 S.2.1 dX7_match_37 (lv_at hl 0 rfl) ?_
        refine lv_if_ne (tgt := 44) S.1 S.2.1 dX7_match_39 (by decide) (fun c14 => ?_) (fun c14 => ?_)
        · have h := h.1 c14
          refine lv_iload_n S.1 S.2.1 dX7_match_44 rfl (lv_at hl 3 rfl) ?_
          refine lv_iload S.1 S.2.1 dX7_match_45 (lv_at hl 0 rfl) ?_
          refine lv_iadd S.1 S.2.1 dX7_match_47 ?_
          refine lv_istore_n (lv' := [(3, .int (x3 + u12)), (5, .int u12), (0, .ref o), (1, va_rf r1), (4, .int x4)]) S.1 S.2.1 dX7_match_48 rfl hl (by decide) rfl (fun ls hl => ?_)
          refine lv_iinc (v := (x4 + nI 1)) (lv' := [(4, .int (x4 + nI 1)), (3, .int (x3 + u12)), (5, .int u12), (0, .ref o), (1, va_rf r1)]) S.1 S.2.1 dX7_match_49 hl (k := 4) rfl rfl (by decide) rfl (fun ls hl => ?_)
          refine lv_goto (tgt := 15) S.1 S.2.1 dX7_match_52 (by decide) ?_
          exact ih r1 (x3 + u12) (x4 + nI 1) μ13 H locs ls hM hS (lv_sub hl [3, 4, 1, 0] rfl) h
        · have h := h.2 c14
          refine lv_iload_n S.1 S.2.1 dX7_match_42 rfl (lv_at hl 3 rfl) ?_
          exact mz_iret S hr hlk hM hS rfl (Nat.le_of_ble_eq_true rfl) (Nat.le_of_ble_eq_true rfl) dX7_match_43 ⟨_, rfl, h⟩
  intro H locs ls hM hS hl
  have hl : lv_has ls 6 [(0, .ref o), (1, va_rf r1), (2, .int x2)] := by simpa [lv_args, mz_cat, mz_cr, mz_ci, mz_cl, mz_cf, mz_cd, mz_cn] using hl
  unfold w_X7_match at h
  refine lv_iload_n S.1 S.2.1 dX7_match_0 rfl (lv_at hl 2 rfl) ?_
  refine lv_istore_n (lv' := [(3, .int x2), (0, .ref o), (1, va_rf r1), (2, .int x2)]) S.1 S.2.1 dX7_match_1 rfl hl (by decide) rfl (fun ls hl => ?_)
  refine lv_aload_n S.1 S.2.1 dX7_match_2 rfl (lv_at hl 1 rfl) ?_
  refine lv_iconst (v := (nI 0)) S.1 S.2.1 dX7_match_3 (by decide) ?_
  obtain ⟨k1, h⟩ := h
  refine mz_puti S hG hM hS cf_6 fd_197 tw_288 dX7_match_4 k1 rfl rfl (fun H locs hM hS hz9 => ?_)
  refine lv_aload_n S.1 S.2.1 dX7_match_7 rfl (lv_at hl 1 rfl) ?_
  refine lv_iconst (v := (nI 0)) S.1 S.2.1 dX7_match_8 (by decide) ?_
  refine mz_puti S hG hM hS cf_6 fd_200 tw_291 dX7_match_9 k1 rfl rfl (fun H locs hM hS hz9 => ?_)
  refine lv_iconst (v := (nI 0)) S.1 S.2.1 dX7_match_12 (by decide) ?_
  refine lv_istore (lv' := [(4, .int (nI 0)), (3, .int x2), (0, .ref o), (1, va_rf r1), (2, .int x2)]) S.1 S.2.1 dX7_match_13 hl (by decide) rfl (fun ls hl => ?_)
  obtain ⟨n9, h⟩ := h
  exact hB15  n9 r1 x2 (nI 0) (sI (sI μ 197 o (nI 0)) 200 o (nI 0)) H locs ls hM hS (lv_sub hl [2, 3, 1, 0] rfl) h
set_option maxRecDepth 100000 in
set_option maxHeartbeats 4000000 in
theorem c_X7_readCommand {l : Launch} {G : mgT} {μ : mmT} {o : Nat} {r1 : Option Nat} {x2 : Int32} {Q : Int32 → mmT → Prop} (h : w_X7_readCommand G μ o r1 x2 Q) : MC G l yX7_readCommand cX7_readCommand 9 (some .boolean) { frames := 5, cells := 0, slots := 0, locals := 110 } [.ref o, va_rf r1, .int x2] μ (pI Q) := by
  refine mz_MC (by decide +kernel) (by simp [lg_sl, mz_cat, mz_cr, mz_ci, mz_cl, mz_cf, mz_cd, mz_cn]) (fun p e s m args below meth c S hG hr hlk hnm => ?_)
  have hB110 : ∀ (s0 : Int32) (μ : mmT) (H : Heap) (locs : List Loc) (ls : Array Slot), Mm G μ H → va_S (Ah G) s.heap H locs → lv_has ls 9 [(0, .ref o)] → w_X7_readCommand_b110 G o Q  s0 μ → W p l e { frames := 5, cells := 0, slots := 0, locals := 110 } s m args below meth c H locs (0) (0) (MQ below (mQ G (pI Q)) args s 0 0 (Ah G)) (F0 m 110 ls [.int s0]) := by
    intro  s0 μ H locs ls hM hS hl h
    unfold w_X7_readCommand_b110 at h
    obtain ⟨f6, h⟩ := h
    exact mz_iret S hr hlk hM hS (mz_nZ f6) (Nat.le_of_ble_eq_true rfl) (Nat.le_of_ble_eq_true rfl) dX7_readCommand_110 ⟨_, rfl, h⟩
  have hB78 : ∀ (K20 : Option Nat → Int32 → Int32 → Option Nat → Int32 → Int32 → mmT → Prop) (kK20 : ∀ (r1 : Option Nat) (x2 : Int32) (x3 : Int32) (r4 : Option Nat) (x5 : Int32) (x6 : Int32) (μ : mmT) (H : Heap) (locs : List Loc) (ls : Array Slot), Mm G μ H → va_S (Ah G) s.heap H locs → lv_has ls 9 [(0, .ref o), (1, va_rf r1), (2, .int x2), (3, .int x3), (4, va_rf r4), (5, .int x5), (6, .int x6)] → K20 r1 x2 x3 r4 x5 x6 μ → W p l e { frames := 5, cells := 0, slots := 0, locals := 110 } s m args below meth c H locs (0) (0) (MQ below (mQ G (pI Q)) args s 0 0 (Ah G)) (F0 m 20 ls [])) (r1 : Option Nat) (x2 : Int32) (x3 : Int32) (r4 : Option Nat) (x5 : Int32) (x6 : Int32) (x8 : Int32) (μ : mmT) (H : Heap) (locs : List Loc) (ls : Array Slot), Mm G μ H → va_S (Ah G) s.heap H locs → lv_has ls 9 [(0, .ref o), (1, va_rf r1), (2, .int x2), (3, .int x3), (4, va_rf r4), (5, .int x5), (6, .int x6), (8, .int x8)] → w_X7_readCommand_b78 G o Q K20 r1 x2 x3 r4 x5 x6 x8 μ → W p l e { frames := 5, cells := 0, slots := 0, locals := 110 } s m args below meth c H locs (0) (0) (MQ below (mQ G (pI Q)) args s 0 0 (Ah G)) (F0 m 78 ls []) := by
    intro K20 kK20 r1 x2 x3 r4 x5 x6 x8 μ H locs ls hM hS hl h
    unfold w_X7_readCommand_b78 at h
    refine lv_aload_n S.1 S.2.1 dX7_readCommand_78 rfl (lv_at hl 0 rfl) ?_
    refine lv_aload_n S.1 S.2.1 dX7_readCommand_79 rfl (lv_at hl 0 rfl) ?_
    obtain ⟨k19, h⟩ := h
    refine mz_geti S hG hM cf_6 fd_196 tw_286 dX7_readCommand_80 k19 ?_
    refine lv_iload S.1 S.2.1 dX7_readCommand_83 (lv_at hl 7 rfl) ?_
    refine va_mmax S.1 S.2.1 (S.2.2.1.trans hl.1.symm) S.2.2.2.1 (S.2.2.2.2 _ tw_1081) (S.2.2.2.2 _ tw_817) (S.2.2.2.2 _ tw_26) (S.2.2.2.2 _ tw_818) (Nat.le_of_ble_eq_true rfl) (Nat.le_of_ble_eq_true rfl) (Nat.le_of_ble_eq_true rfl) (Nat.le_of_ble_eq_true rfl) dX7_readCommand_85 ?_
    refine mz_puti S hG hM hS cf_6 fd_196 tw_286 dX7_readCommand_88 k19 rfl rfl (fun H locs hM hS hz9 => ?_)
    refine lv_iinc (v := (x6 + nI 1)) (lv' := [(6, .int (x6 + nI 1)), (0, .ref o), (1, va_rf r1), (2, .int x2), (3, .int x3), (4, va_rf r4), (5, .int x5), (8, .int x8)]) S.1 S.2.1 dX7_readCommand_91 hl (k := 6) rfl rfl (by decide) rfl (fun ls hl => ?_)
    refine lv_goto (tgt := 20) S.1 S.2.1 dX7_readCommand_94 (by decide) ?_
    exact kK20 r1 x2 x3 r4 x5 (x6 + nI 1) (sI μ 196 o (if (mI μ 196 o) < x8 then x8 else (mI μ 196 o))) H locs ls hM hS (lv_sub hl [1, 2, 3, 4, 5, 6, 0] rfl) h
  have hB20 : ∀ (n : Nat) (r1 : Option Nat) (x2 : Int32) (x3 : Int32) (r4 : Option Nat) (x5 : Int32) (x6 : Int32) (μ : mmT) (H : Heap) (locs : List Loc) (ls : Array Slot), Mm G μ H → va_S (Ah G) s.heap H locs → lv_has ls 9 [(0, .ref o), (1, va_rf r1), (2, .int x2), (3, .int x3), (4, va_rf r4), (5, .int x5), (6, .int x6)] → w_X7_readCommand_l20 G o Q  n r1 x2 x3 r4 x5 x6 μ → W p l e { frames := 5, cells := 0, slots := 0, locals := 110 } s m args below meth c H locs (0) (0) (MQ below (mQ G (pI Q)) args s 0 0 (Ah G)) (F0 m 20 ls []) := by
    intro  n
    induction n with
    | zero =>
      intro r1 x2 x3 r4 x5 x6 μ H locs ls hM hS hl h
      exact False.elim h
    | succ n ih =>
      intro r1 x2 x3 r4 x5 x6 μ H locs ls hM hS hl h
      have h : w_X7_readCommand_b20 G o Q  (w_X7_readCommand_l20 G o Q  n) r1 x2 x3 r4 x5 x6 μ := h
      unfold w_X7_readCommand_b20 at h
      refine lv_iload S.1 S.2.1 dX7_readCommand_20 (lv_at hl 6 rfl) ?_
      refine lv_iload S.1 S.2.1 dX7_readCommand_22 (lv_at hl 5 rfl) ?_
      refine lv_icmp_ge (tgt := 97) S.1 S.2.1 dX7_readCommand_24 (by decide) (fun c3 => ?_) (fun c3 => ?_)
      · have h := h.1 c3
        refine lv_iload_n S.1 S.2.1 dX7_readCommand_97 rfl (lv_at hl 3 rfl) ?_
        refine lv_aload_n S.1 S.2.1 dX7_readCommand_98 rfl (lv_at hl 0 rfl) ?_
        obtain ⟨k4, h⟩ := h
        refine mz_geti S hG hM cf_6 fd_196 tw_286 dX7_readCommand_99 k4 ?_
        refine lv_icmp_ne (tgt := 109) S.1 S.2.1 dX7_readCommand_102 (by decide) (fun c5 => ?_) (fun c5 => ?_)
        · have h := h.1 c5
          refine lv_iconst (v := (nI 0)) S.1 S.2.1 dX7_readCommand_109 (by decide) ?_
          exact hB110  (nI 0) μ H locs ls hM hS (lv_sub hl [0] rfl) h
        · have h := h.2 c5
          refine lv_iconst (v := (nI 1)) S.1 S.2.1 dX7_readCommand_105 (by decide) ?_
          refine lv_goto (tgt := 110) S.1 S.2.1 dX7_readCommand_106 (by decide) ?_
          exact hB110  (nI 1) μ H locs ls hM hS (lv_sub hl [0] rfl) h
      · have h := h.2 c3
        refine mz_aload (x := r4) S.1 S.2.1 dX7_readCommand_27 (lv_at hl 4 rfl) ?_
        refine lv_iload S.1 S.2.1 dX7_readCommand_29 (lv_at hl 6 rfl) ?_
        obtain ⟨a7, e8, h⟩ := h
        refine mz_o1 e8 ?_
        obtain ⟨q9, h⟩ := h
        obtain ⟨b10, h⟩ := h
        refine mz_formsA S hG hS q9 b10 dX7_readCommand_31 ?_
        refine lv_astore (lv' := [(7, .ref (gE G x6.toNatClampNeg)), (0, .ref o), (1, va_rf r1), (2, .int x2), (3, .int x3), (4, va_rf r4), (5, .int x5), (6, .int x6)]) S.1 S.2.1 dX7_readCommand_32 hl (by decide) rfl (fun ls hl => ?_)
        refine lv_aload_n S.1 S.2.1 dX7_readCommand_34 rfl (lv_at hl 1 rfl) ?_
        refine lv_aload S.1 S.2.1 dX7_readCommand_35 (lv_at hl 0 rfl) ?_
        obtain ⟨j11, q12, l13, h⟩ := h
        refine mz_tops (congrArg Value.ref q12) ?_
        refine vk_getf S.1 S.2.1 (hG.pat j11 l13) hS S.2.2.2.1 (S.2.2.2.2 _ tw_1458) (fun _ q => q) dX7_readCommand_37 ?_
        refine lv_iload_n S.1 S.2.1 dX7_readCommand_40 rfl (lv_at hl 3 rfl) ?_
        obtain ⟨k14, h⟩ := h
        refine mz_V S hG hM hS cf_6 k14 (As := [.ref (gS G (gPat j11)), .int x2]) (rest := []) (c_X7_match h) yf_X7_match tw_1063 tw_1065 ts_13 ⟨Nat.le_of_ble_eq_true rfl, Nat.le_of_ble_eq_true rfl⟩ ⟨(Nat.le_of_ble_eq_true rfl), (Nat.le_of_ble_eq_true rfl)⟩ rfl hl.1 rfl (Nat.le_of_ble_eq_true rfl) dX7_readCommand_41 (fun v9 μ16 H locs hp hM hS => ?_)
        obtain ⟨u15, rfl, h⟩ := hp
        refine W.cs (cells' := 0) (slots' := 0) rfl rfl ?_
        refine lv_istore (lv' := [(8, .int u15), (7, .ref (gE G x6.toNatClampNeg)), (0, .ref o), (1, va_rf r1), (2, .int x2), (3, .int x3), (4, va_rf r4), (5, .int x5), (6, .int x6)]) S.1 S.2.1 dX7_readCommand_44 hl (by decide) rfl (fun ls hl => ?_)
        refine lv_aload_n S.1 S.2.1 dX7_readCommand_46 rfl (lv_at hl 2 rfl) ?_
        obtain ⟨k17, h⟩ := h
        refine mz_geti S hG hM cf_6 fd_200 tw_291 dX7_readCommand_47 k17 ?_
        refine lv_if_eq (tgt := 78) S.1 S.2.1 dX7_readCommand_50 (by decide) (fun c18 => ?_) (fun c18 => ?_)
        · have h := h.1 c18
          exact hB78 (w_X7_readCommand_l20 G o Q  n) ih r1 x2 x3 r4 x5 x6 u15 μ16 H locs ls hM hS (lv_sub hl [2, 3, 4, 5, 6, 7, 8, 0] rfl) h
        · have h := h.2 c18
          refine mz_aload_n (x := r1) S.1 S.2.1 dX7_readCommand_53 rfl (lv_at hl 3 rfl) ?_
          refine lv_aload S.1 S.2.1 dX7_readCommand_54 (lv_at hl 1 rfl) ?_
          obtain ⟨a20, e21, h⟩ := h
          refine mz_o1 e21 ?_
          obtain ⟨k22, h⟩ := h
          refine mz_putr (x := (some (gE G x6.toNatClampNeg))) S hG hM hS cf_1 fd_32 tw_264 dX7_readCommand_56 k22 rfl rfl (fun H locs hM hS hz9 => ?_)
          refine mz_aload_n (x := r1) S.1 S.2.1 dX7_readCommand_59 rfl (lv_at hl 3 rfl) ?_
          refine lv_aload_n S.1 S.2.1 dX7_readCommand_60 rfl (lv_at hl 2 rfl) ?_
          refine mz_geti S hG hM cf_6 fd_198 tw_289 dX7_readCommand_61 k17 ?_
          refine mz_o1 e21 ?_
          refine mz_puti S hG hM hS cf_1 fd_33 tw_267 dX7_readCommand_64 k22 rfl rfl (fun H locs hM hS hz9 => ?_)
          refine mz_aload_n (x := r1) S.1 S.2.1 dX7_readCommand_67 rfl (lv_at hl 3 rfl) ?_
          refine lv_aload_n S.1 S.2.1 dX7_readCommand_68 rfl (lv_at hl 2 rfl) ?_
          refine mz_geti S hG hM cf_6 fd_199 tw_290 dX7_readCommand_69 k17 ?_
          refine mz_o1 e21 ?_
          refine mz_puti S hG hM hS cf_1 fd_34 tw_270 dX7_readCommand_72 k22 rfl rfl (fun H locs hM hS hz9 => ?_)
          refine lv_iload S.1 S.2.1 dX7_readCommand_75 (lv_at hl 0 rfl) ?_
          refine lv_istore_n (lv' := [(3, .int u15), (8, .int u15), (7, .ref (gE G x6.toNatClampNeg)), (0, .ref o), (1, va_rf r1), (2, .int x2), (4, va_rf r4), (5, .int x5), (6, .int x6)]) S.1 S.2.1 dX7_readCommand_77 rfl hl (by decide) rfl (fun ls hl => ?_)
          exact hB78 (w_X7_readCommand_l20 G o Q  n) ih r1 x2 u15 r4 x5 x6 u15 (sI (sI (sR μ16 32 a20 (some (gE G x6.toNatClampNeg))) 33 a20 (mI (sR μ16 32 a20 (some (gE G x6.toNatClampNeg))) 198 o)) 34 a20 (mI (sI (sR μ16 32 a20 (some (gE G x6.toNatClampNeg))) 33 a20 (mI (sR μ16 32 a20 (some (gE G x6.toNatClampNeg))) 198 o)) 199 o)) H locs ls hM hS (lv_sub hl [3, 4, 5, 0, 6, 7, 8, 1] rfl) h
  intro H locs ls hM hS hl
  have hl : lv_has ls 9 [(0, .ref o), (1, va_rf r1), (2, .int x2)] := by simpa [lv_args, mz_cat, mz_cr, mz_ci, mz_cl, mz_cf, mz_cd, mz_cn] using hl
  unfold w_X7_readCommand at h
  refine lv_iconst (v := (-1)) S.1 S.2.1 dX7_readCommand_0 (by decide) ?_
  refine lv_istore_n (lv' := [(3, .int (-1)), (0, .ref o), (1, va_rf r1), (2, .int x2)]) S.1 S.2.1 dX7_readCommand_1 rfl hl (by decide) rfl (fun ls hl => ?_)
  refine lv_aload_n S.1 S.2.1 dX7_readCommand_2 rfl (lv_at hl 1 rfl) ?_
  refine lv_iload_n S.1 S.2.1 dX7_readCommand_3 rfl (lv_at hl 3 rfl) ?_
  obtain ⟨k1, h⟩ := h
  refine mz_puti S hG hM hS cf_6 fd_196 tw_286 dX7_readCommand_4 k1 rfl rfl (fun H locs hM hS hz9 => ?_)
  refine va_getsN S.1 S.2.1 (hG.forms.1) hS S.2.2.2.1 (va_Nw.use rfl (hG.2.1 (Cond.fieldLinkNest "CrowMail$Script" 49 "CrowMail" "FORMS" "[LCrowMail$Form;" "CrowMail") (List.mem_of_getElem? (i := 1061) (by decide +kernel)) rfl)) (fun _ q => q) dX7_readCommand_7 ?_
  refine lv_astore (lv' := [(4, .ref (gX G 0)), (3, .int (-1)), (0, .ref o), (1, va_rf r1), (2, .int x2)]) S.1 S.2.1 dX7_readCommand_10 hl (by decide) rfl (fun ls hl => ?_)
  refine lv_aload S.1 S.2.1 dX7_readCommand_12 (lv_at hl 0 rfl) ?_
  refine mz_formsL S hG hS rfl dX7_readCommand_14 ?_
  refine lv_istore (lv' := [(5, .int (nI 9)), (4, .ref (gX G 0)), (3, .int (-1)), (0, .ref o), (1, va_rf r1), (2, .int x2)]) S.1 S.2.1 dX7_readCommand_15 hl (by decide) rfl (fun ls hl => ?_)
  refine lv_iconst (v := (nI 0)) S.1 S.2.1 dX7_readCommand_17 (by decide) ?_
  refine lv_istore (lv' := [(6, .int (nI 0)), (5, .int (nI 9)), (4, .ref (gX G 0)), (3, .int (-1)), (0, .ref o), (1, va_rf r1), (2, .int x2)]) S.1 S.2.1 dX7_readCommand_18 hl (by decide) rfl (fun ls hl => ?_)
  obtain ⟨n9, h⟩ := h
  exact hB20  n9 r1 x2 (-1) (some (gX G 0)) (nI 9) (nI 0) (sI μ 196 o x2) H locs ls hM hS (lv_sub hl [4, 5, 6, 3, 2, 1, 0] rfl) h
set_option maxRecDepth 100000 in
set_option maxHeartbeats 4000000 in
theorem c_X7_split {l : Launch} {G : mgT} {μ : mmT} {o : Nat} {Q : Int32 → mmT → Prop} (h : w_X7_split G μ o Q) : MC G l yX7_split cX7_split 3 (some .boolean) { frames := 6, cells := 0, slots := 0, locals := 138 } [.ref o] μ (pI Q) := by
  refine mz_MC (by decide +kernel) (Nat.le_of_ble_eq_true rfl) (fun p e s m args below meth c S hG hr hlk hnm => ?_)
  have hB4 : ∀ (n : Nat) (x1 : Int32) (x2 : Int32) (μ : mmT) (H : Heap) (locs : List Loc) (ls : Array Slot), Mm G μ H → va_S (Ah G) s.heap H locs → lv_has ls 3 [(0, .ref o), (1, .int x1), (2, .int x2)] → w_X7_split_l4 G o Q  n x1 x2 μ → W p l e { frames := 6, cells := 0, slots := 0, locals := 138 } s m args below meth c H locs (0) (0) (MQ below (mQ G (pI Q)) args s 0 0 (Ah G)) (F0 m 4 ls []) := by
    intro  n
    induction n with
    | zero =>
      intro x1 x2 μ H locs ls hM hS hl h
      exact False.elim h
    | succ n ih =>
      intro x1 x2 μ H locs ls hM hS hl h
      have h : w_X7_split_b4 G o Q  (w_X7_split_l4 G o Q  n) x1 x2 μ := h
      unfold w_X7_split_b4 at h
      refine lv_iload_n S.1 S.2.1 dX7_split_4 rfl (lv_at hl 2 rfl) ?_
      refine lv_bipush (v := (nI 60)) S.1 S.2.1 dX7_split_5 (by decide) ?_
      refine lv_icmp_ge (tgt := 75) S.1 S.2.1 dX7_split_7 (by decide) (fun c1 => ?_) (fun c1 => ?_)
      · have h := h.1 c1
        refine lv_iconst (v := (nI 0)) S.1 S.2.1 dX7_split_75 (by decide) ?_
        exact mz_iret S hr hlk hM hS rfl (Nat.le_of_ble_eq_true rfl) (Nat.le_of_ble_eq_true rfl) dX7_split_76 ⟨_, rfl, h⟩
      · have h := h.2 c1
        refine lv_aload_n S.1 S.2.1 dX7_split_10 rfl (lv_at hl 0 rfl) ?_
        refine lv_aload_n S.1 S.2.1 dX7_split_11 rfl (lv_at hl 0 rfl) ?_
        obtain ⟨k2, h⟩ := h
        refine mz_getr S hG hM cf_6 fd_193 tw_280 dX7_split_12 k2 ?_
        refine lv_iload_n S.1 S.2.1 dX7_split_15 rfl (lv_at hl 2 rfl) ?_
        obtain ⟨a3, e4, h⟩ := h
        refine mz_o1 e4 ?_
        obtain ⟨k5, h⟩ := h
        obtain ⟨b6, h⟩ := h
        refine mz_aald (j := 5) S hG hM dX7_split_16 (by decide) rfl k5 b6 ?_
        refine lv_iload_n S.1 S.2.1 dX7_split_17 rfl (lv_at hl 1 rfl) ?_
        refine mz_V S hG hM hS cf_6 k2 (As := [va_rf (mB μ a3 x2.toNatClampNeg), .int x1]) (rest := []) (c_X7_readCommand h) yf_X7_readCommand tw_1057 tw_1059 ts_12 ⟨Nat.le_of_ble_eq_true rfl, Nat.le_of_ble_eq_true rfl⟩ ⟨(Nat.le_of_ble_eq_true rfl), (Nat.le_of_ble_eq_true rfl)⟩ rfl hl.1 rfl (Nat.le_of_ble_eq_true rfl) dX7_split_18 (fun v9 μ8 H locs hp hM hS => ?_)
        obtain ⟨u7, rfl, h⟩ := hp
        refine W.cs (cells' := 0) (slots' := 0) rfl rfl ?_
        refine lv_if_ne (tgt := 26) S.1 S.2.1 dX7_split_21 (by decide) (fun c9 => ?_) (fun c9 => ?_)
        · have h := h.1 c9
          refine lv_aload_n S.1 S.2.1 dX7_split_26 rfl (lv_at hl 0 rfl) ?_
          refine lv_iload_n S.1 S.2.1 dX7_split_27 rfl (lv_at hl 2 rfl) ?_
          refine lv_iconst (v := (nI 1)) S.1 S.2.1 dX7_split_28 (by decide) ?_
          refine lv_iadd S.1 S.2.1 dX7_split_29 ?_
          obtain ⟨k10, h⟩ := h
          refine mz_puti S hG hM hS cf_6 fd_195 tw_284 dX7_split_30 k10 rfl rfl (fun H locs hM hS hz9 => ?_)
          refine lv_aload_n S.1 S.2.1 dX7_split_33 rfl (lv_at hl 0 rfl) ?_
          refine mz_geti S hG hM cf_6 fd_196 tw_286 dX7_split_34 k10 ?_
          refine lv_aload_n S.1 S.2.1 dX7_split_37 rfl (lv_at hl 0 rfl) ?_
          refine mz_geti S hG hM cf_6 fd_194 tw_282 dX7_split_38 k10 ?_
          refine lv_icmp_lt (tgt := 46) S.1 S.2.1 dX7_split_41 (by decide) (fun c11 => ?_) (fun c11 => ?_)
          · have h := h.1 c11
            refine lv_aload_n S.1 S.2.1 dX7_split_46 rfl (lv_at hl 0 rfl) ?_
            refine mz_getr S hG hM cf_6 fd_192 tw_279 dX7_split_47 k10 ?_
            refine lv_aload_n S.1 S.2.1 dX7_split_50 rfl (lv_at hl 0 rfl) ?_
            refine mz_geti S hG hM cf_6 fd_196 tw_286 dX7_split_51 k10 ?_
            obtain ⟨a12, e13, h⟩ := h
            refine mz_o1 e13 ?_
            obtain ⟨k14, h⟩ := h
            obtain ⟨b15, h⟩ := h
            refine mz_cald S hG hM dX7_split_54 k14 b15 ?_
            refine lv_bipush (v := (nI 59)) S.1 S.2.1 dX7_split_55 (by decide) ?_
            refine lv_icmp_eq (tgt := 62) S.1 S.2.1 dX7_split_57 (by decide) (fun c16 => ?_) (fun c16 => ?_)
            · have h := h.1 c16
              refine lv_aload_n S.1 S.2.1 dX7_split_62 rfl (lv_at hl 0 rfl) ?_
              refine mz_geti S hG hM cf_6 fd_196 tw_286 dX7_split_63 k10 ?_
              refine lv_iconst (v := (nI 1)) S.1 S.2.1 dX7_split_66 (by decide) ?_
              refine lv_iadd S.1 S.2.1 dX7_split_67 ?_
              refine lv_istore_n (lv' := [(1, .int ((mI (sI μ8 195 o (x2 + (nI 1))) 196 o) + (nI 1))), (0, .ref o), (2, .int x2)]) S.1 S.2.1 dX7_split_68 rfl hl (by decide) rfl (fun ls hl => ?_)
              refine lv_iinc (v := (x2 + nI 1)) (lv' := [(2, .int (x2 + nI 1)), (1, .int ((mI (sI μ8 195 o (x2 + (nI 1))) 196 o) + (nI 1))), (0, .ref o)]) S.1 S.2.1 dX7_split_69 hl (k := 2) rfl rfl (by decide) rfl (fun ls hl => ?_)
              refine lv_goto (tgt := 4) S.1 S.2.1 dX7_split_72 (by decide) ?_
              exact ih ((mI (sI μ8 195 o (x2 + (nI 1))) 196 o) + (nI 1)) (x2 + nI 1) (sI μ8 195 o (x2 + (nI 1))) H locs ls hM hS (lv_sub hl [2, 1, 0] rfl) h
            · have h := h.2 c16
              refine lv_iconst (v := (nI 0)) S.1 S.2.1 dX7_split_60 (by decide) ?_
              exact mz_iret S hr hlk hM hS rfl (Nat.le_of_ble_eq_true rfl) (Nat.le_of_ble_eq_true rfl) dX7_split_61 ⟨_, rfl, h⟩
          · have h := h.2 c11
            refine lv_iconst (v := (nI 1)) S.1 S.2.1 dX7_split_44 (by decide) ?_
            exact mz_iret S hr hlk hM hS rfl (Nat.le_of_ble_eq_true rfl) (Nat.le_of_ble_eq_true rfl) dX7_split_45 ⟨_, rfl, h⟩
        · have h := h.2 c9
          refine lv_iconst (v := (nI 0)) S.1 S.2.1 dX7_split_24 (by decide) ?_
          exact mz_iret S hr hlk hM hS rfl (Nat.le_of_ble_eq_true rfl) (Nat.le_of_ble_eq_true rfl) dX7_split_25 ⟨_, rfl, h⟩
  intro H locs ls hM hS hl
  have hl : lv_has ls 3 [(0, .ref o)] := hl
  unfold w_X7_split at h
  refine lv_iconst (v := (nI 0)) S.1 S.2.1 dX7_split_0 (by decide) ?_
  refine lv_istore_n (lv' := [(1, .int (nI 0)), (0, .ref o)]) S.1 S.2.1 dX7_split_1 rfl hl (by decide) rfl (fun ls hl => ?_)
  refine lv_iconst (v := (nI 0)) S.1 S.2.1 dX7_split_2 (by decide) ?_
  refine lv_istore_n (lv' := [(2, .int (nI 0)), (1, .int (nI 0)), (0, .ref o)]) S.1 S.2.1 dX7_split_3 rfl hl (by decide) rfl (fun ls hl => ?_)
  obtain ⟨n9, h⟩ := h
  exact hB4  n9 (nI 0) (nI 0) μ H locs ls hM hS (lv_sub hl [2, 1, 0] rfl) h
set_option maxRecDepth 100000 in
set_option maxHeartbeats 4000000 in
theorem c_Jx29ce0_ordinal_8abf5 {l : Launch} {G : mgT} {μ : mmT} {o : Nat} {Q : Int32 → Prop} (h : w_Jx29ce0_ordinal_8abf5 G μ o Q) : MC G l yJx29ce0_ordinal_8abf5 cJx29ce0_ordinal_8abf5 1 (some .int) { frames := 0, cells := 0, slots := 0, locals := 0 } [.ref o] μ (pI (fun r μ' => μ' = μ ∧ Q r)) := by
  refine mz_MC (by decide +kernel) (Nat.le_of_ble_eq_true rfl) (fun p e s m args below meth c S hG hr hlk hnm => ?_)
  intro H locs ls hM hS hl
  have hl : lv_has ls 1 [(0, .ref o)] := hl
  unfold w_Jx29ce0_ordinal_8abf5 at h
  refine lv_aload_n S.1 S.2.1 dJx29ce0_ordinal_8abf5_0 rfl (lv_at hl 0 rfl) ?_
  obtain ⟨j1, q2, l3, h⟩ := h
  refine mz_tops (congrArg Value.ref q2) ?_
  refine vk_getf S.1 S.2.1 (hG.ord j1 l3) hS S.2.2.2.1 (S.2.2.2.2 _ tw_1459) (fun _ q => q) dJx29ce0_ordinal_8abf5_1 ?_
  exact mz_iret S hr hlk hM hS rfl (Nat.le_of_ble_eq_true rfl) (Nat.le_of_ble_eq_true rfl) dJx29ce0_ordinal_8abf5_4 ⟨_, rfl, rfl, h⟩
set_option maxRecDepth 100000 in
set_option maxHeartbeats 4000000 in
theorem c_X8_rowOf {l : Launch} {G : mgT} {μ : mmT} {o : Nat} {x1 : Int32} {Q : Int32 → Prop} (h : w_X8_rowOf G μ o x1 Q) : MC G l yX8_rowOf cX8_rowOf 3 (some .int) { frames := 0, cells := 0, slots := 0, locals := 0 } [.ref o, .int x1] μ (pI (fun r μ' => μ' = μ ∧ Q r)) := by
  refine mz_MC (by decide +kernel) (Nat.le_of_ble_eq_true rfl) (fun p e s m args below meth c S hG hr hlk hnm => ?_)
  have hB2 : ∀ (n : Nat) (x1 : Int32) (x2 : Int32) (H : Heap) (locs : List Loc) (ls : Array Slot), Mm G μ H → va_S (Ah G) s.heap H locs → lv_has ls 3 [(0, .ref o), (1, .int x1), (2, .int x2)] → w_X8_rowOf_l2 G μ o Q  n x1 x2 → W p l e { frames := 0, cells := 0, slots := 0, locals := 0 } s m args below meth c H locs (0) (0) (MQ below (mQ G (pI (fun r μ' => μ' = μ ∧ Q r))) args s 0 0 (Ah G)) (F0 m 2 ls []) := by
    intro  n
    induction n with
    | zero =>
      intro x1 x2 H locs ls hM hS hl h
      exact False.elim h
    | succ n ih =>
      intro x1 x2 H locs ls hM hS hl h
      have h : w_X8_rowOf_b2 G μ o Q  (w_X8_rowOf_l2 G μ o Q  n) x1 x2 := h
      unfold w_X8_rowOf_b2 at h
      refine lv_iload_n S.1 S.2.1 dX8_rowOf_2 rfl (lv_at hl 2 rfl) ?_
      refine lv_aload_n S.1 S.2.1 dX8_rowOf_3 rfl (lv_at hl 0 rfl) ?_
      obtain ⟨k1, h⟩ := h
      refine mz_geti S hG hM cf_7 fd_230 tw_202 dX8_rowOf_4 k1 ?_
      refine lv_icmp_ge (tgt := 31) S.1 S.2.1 dX8_rowOf_7 (by decide) (fun c2 => ?_) (fun c2 => ?_)
      · have h := h.1 c2
        refine lv_iconst (v := (-1)) S.1 S.2.1 dX8_rowOf_31 (by decide) ?_
        exact mz_iret S hr hlk hM hS rfl (Nat.le_of_ble_eq_true rfl) (Nat.le_of_ble_eq_true rfl) dX8_rowOf_32 ⟨_, rfl, rfl, h⟩
      · have h := h.2 c2
        refine lv_aload_n S.1 S.2.1 dX8_rowOf_10 rfl (lv_at hl 0 rfl) ?_
        refine mz_getr S hG hM cf_7 fd_226 tw_194 dX8_rowOf_11 k1 ?_
        refine lv_iload_n S.1 S.2.1 dX8_rowOf_14 rfl (lv_at hl 2 rfl) ?_
        obtain ⟨a3, e4, h⟩ := h
        refine mz_o1 e4 ?_
        obtain ⟨k5, h⟩ := h
        obtain ⟨b6, h⟩ := h
        refine mz_aald (j := 7) S hG hM dX8_rowOf_15 (by decide) rfl k5 b6 ?_
        obtain ⟨a7, e8, h⟩ := h
        refine mz_o0 e8 ?_
        obtain ⟨k9, h⟩ := h
        refine mz_geti S hG hM cf_4 fd_128 tw_162 dX8_rowOf_16 k9 ?_
        refine lv_iload_n S.1 S.2.1 dX8_rowOf_19 rfl (lv_at hl 1 rfl) ?_
        refine lv_icmp_ne (tgt := 25) S.1 S.2.1 dX8_rowOf_20 (by decide) (fun c10 => ?_) (fun c10 => ?_)
        · have h := h.1 c10
          refine lv_iinc (v := (x2 + nI 1)) (lv' := [(2, .int (x2 + nI 1)), (0, .ref o), (1, .int x1)]) S.1 S.2.1 dX8_rowOf_25 hl (k := 2) rfl rfl (by decide) rfl (fun ls hl => ?_)
          refine lv_goto (tgt := 2) S.1 S.2.1 dX8_rowOf_28 (by decide) ?_
          exact ih x1 (x2 + nI 1) H locs ls hM hS (lv_sub hl [1, 2, 0] rfl) h
        · have h := h.2 c10
          refine lv_iload_n S.1 S.2.1 dX8_rowOf_23 rfl (lv_at hl 2 rfl) ?_
          exact mz_iret S hr hlk hM hS rfl (Nat.le_of_ble_eq_true rfl) (Nat.le_of_ble_eq_true rfl) dX8_rowOf_24 ⟨_, rfl, rfl, h⟩
  intro H locs ls hM hS hl
  have hl : lv_has ls 3 [(0, .ref o), (1, .int x1)] := hl
  unfold w_X8_rowOf at h
  refine lv_iconst (v := (nI 0)) S.1 S.2.1 dX8_rowOf_0 (by decide) ?_
  refine lv_istore_n (lv' := [(2, .int (nI 0)), (0, .ref o), (1, .int x1)]) S.1 S.2.1 dX8_rowOf_1 rfl hl (by decide) rfl (fun ls hl => ?_)
  obtain ⟨n9, h⟩ := h
  exact hB2  n9 x1 (nI 0) H locs ls hM hS (lv_sub hl [1, 2, 0] rfl) h
set_option maxRecDepth 100000 in
set_option maxHeartbeats 4000000 in
theorem c_X8_messageWith {l : Launch} {G : mgT} {μ : mmT} {o : Nat} {x1 : Int32} {Q : Option Nat → Prop} (h : w_X8_messageWith G μ o x1 Q) : MC G l yX8_messageWith cX8_messageWith 3 (some (.object "CrowMail$Message")) { frames := 1, cells := 0, slots := 0, locals := 22 } [.ref o, .int x1] μ (pR (fun r μ' => μ' = μ ∧ Q r)) := by
  refine mz_MC (by decide +kernel) (Nat.le_of_ble_eq_true rfl) (fun p e s m args below meth c S hG hr hlk hnm => ?_)
  have hB21 : ∀ (s0 : Option Nat) (H : Heap) (locs : List Loc) (ls : Array Slot), Mm G μ H → va_S (Ah G) s.heap H locs → lv_has ls 3 [(0, .ref o)] → w_X8_messageWith_b21 G μ o Q  s0 → W p l e { frames := 1, cells := 0, slots := 0, locals := 22 } s m args below meth c H locs (0) (0) (MQ below (mQ G (pR (fun r μ' => μ' = μ ∧ Q r))) args s 0 0 (Ah G)) (F0 m 21 ls [va_rf s0]) := by
    intro  s0 H locs ls hM hS hl h
    unfold w_X8_messageWith_b21 at h
    exact mz_aret (x := s0) S hr (by first | exact Or.inl ⟨_, rfl⟩ | exact Or.inr ⟨_, rfl⟩) hlk hM hS (Nat.le_of_ble_eq_true rfl) (Nat.le_of_ble_eq_true rfl) dX8_messageWith_21 ⟨_, rfl, rfl, h⟩
  intro H locs ls hM hS hl
  have hl : lv_has ls 3 [(0, .ref o), (1, .int x1)] := hl
  unfold w_X8_messageWith at h
  refine lv_aload_n S.1 S.2.1 dX8_messageWith_0 rfl (lv_at hl 0 rfl) ?_
  refine lv_iload_n S.1 S.2.1 dX8_messageWith_1 rfl (lv_at hl 1 rfl) ?_
  obtain ⟨k1, h⟩ := h
  refine mz_V S hG hM hS cf_7 k1 (As := [.int x1]) (rest := []) (c_X8_rowOf h) yf_X8_rowOf tw_498 tw_500 ts_2 ⟨Nat.le_of_ble_eq_true rfl, Nat.le_of_ble_eq_true rfl⟩ ⟨(Nat.le_of_ble_eq_true rfl), (Nat.le_of_ble_eq_true rfl)⟩ rfl hl.1 rfl (Nat.le_of_ble_eq_true rfl) dX8_messageWith_2 (fun v9 μ9 H locs hp hM hS => ?_)
  obtain ⟨u2, rfl, e9, h⟩ := hp
  rw [e9] at hM
  refine W.cs (cells' := 0) (slots' := 0) rfl rfl ?_
  refine lv_istore_n (lv' := [(2, .int u2), (0, .ref o), (1, .int x1)]) S.1 S.2.1 dX8_messageWith_5 rfl hl (by decide) rfl (fun ls hl => ?_)
  refine lv_iload_n S.1 S.2.1 dX8_messageWith_6 rfl (lv_at hl 0 rfl) ?_
  refine lv_iconst (v := (-1)) S.1 S.2.1 dX8_messageWith_7 (by decide) ?_
  refine lv_icmp_ne (tgt := 15) S.1 S.2.1 dX8_messageWith_8 (by decide) (fun c3 => ?_) (fun c3 => ?_)
  · have h := h.1 c3
    refine lv_aload_n S.1 S.2.1 dX8_messageWith_15 rfl (lv_at hl 1 rfl) ?_
    refine mz_getr S hG hM cf_7 fd_226 tw_194 dX8_messageWith_16 k1 ?_
    refine lv_iload_n S.1 S.2.1 dX8_messageWith_19 rfl (lv_at hl 0 rfl) ?_
    obtain ⟨a4, e5, h⟩ := h
    refine mz_o1 e5 ?_
    obtain ⟨k6, h⟩ := h
    obtain ⟨b7, h⟩ := h
    refine mz_aald (j := 7) S hG hM dX8_messageWith_20 (by decide) rfl k6 b7 ?_
    exact hB21  (mB μ a4 u2.toNatClampNeg) H locs ls hM hS (lv_sub hl [1] rfl) h
  · have h := h.2 c3
    refine lv_null S.1 S.2.1 dX8_messageWith_11 ?_
    refine lv_goto (tgt := 21) S.1 S.2.1 dX8_messageWith_12 (by decide) ?_
    exact hB21  none H locs ls hM hS (lv_sub hl [1] rfl) h
set_option maxRecDepth 100000 in
set_option maxHeartbeats 4000000 in
theorem c_X8_nestAt {l : Launch} {G : mgT} {μ : mmT} {o : Nat} {x1 : Int32} {Q : Option Nat → Prop} (h : w_X8_nestAt G μ o x1 Q) : MC G l yX8_nestAt cX8_nestAt 2 (some (.object "CrowMail$Nest")) { frames := 0, cells := 0, slots := 0, locals := 0 } [.ref o, .int x1] μ (pR (fun r μ' => μ' = μ ∧ Q r)) := by
  refine mz_MC (by decide +kernel) (Nat.le_of_ble_eq_true rfl) (fun p e s m args below meth c S hG hr hlk hnm => ?_)
  have hB22 : ∀ (s0 : Option Nat) (H : Heap) (locs : List Loc) (ls : Array Slot), Mm G μ H → va_S (Ah G) s.heap H locs → lv_has ls 2 [(0, .ref o)] → w_X8_nestAt_b22 G μ o Q  s0 → W p l e { frames := 0, cells := 0, slots := 0, locals := 0 } s m args below meth c H locs (0) (0) (MQ below (mQ G (pR (fun r μ' => μ' = μ ∧ Q r))) args s 0 0 (Ah G)) (F0 m 22 ls [va_rf s0]) := by
    intro  s0 H locs ls hM hS hl h
    unfold w_X8_nestAt_b22 at h
    exact mz_aret (x := s0) S hr (by first | exact Or.inl ⟨_, rfl⟩ | exact Or.inr ⟨_, rfl⟩) hlk hM hS (Nat.le_of_ble_eq_true rfl) (Nat.le_of_ble_eq_true rfl) dX8_nestAt_22 ⟨_, rfl, rfl, h⟩
  have hB12 : ∀  (H : Heap) (locs : List Loc) (ls : Array Slot), Mm G μ H → va_S (Ah G) s.heap H locs → lv_has ls 2 [(0, .ref o)] → w_X8_nestAt_b12 G μ o Q   → W p l e { frames := 0, cells := 0, slots := 0, locals := 0 } s m args below meth c H locs (0) (0) (MQ below (mQ G (pR (fun r μ' => μ' = μ ∧ Q r))) args s 0 0 (Ah G)) (F0 m 12 ls []) := by
    intro   H locs ls hM hS hl h
    unfold w_X8_nestAt_b12 at h
    refine lv_null S.1 S.2.1 dX8_nestAt_12 ?_
    refine lv_goto (tgt := 22) S.1 S.2.1 dX8_nestAt_13 (by decide) ?_
    exact hB22  none H locs ls hM hS (lv_sub hl [0] rfl) h
  intro H locs ls hM hS hl
  have hl : lv_has ls 2 [(0, .ref o), (1, .int x1)] := hl
  unfold w_X8_nestAt at h
  refine lv_iload_n S.1 S.2.1 dX8_nestAt_0 rfl (lv_at hl 1 rfl) ?_
  refine lv_if_lt (tgt := 12) S.1 S.2.1 dX8_nestAt_1 (by decide) (fun c1 => ?_) (fun c1 => ?_)
  · have h := h.1 c1
    exact hB12   H locs ls hM hS (lv_sub hl [0] rfl) h
  · have h := h.2 c1
    refine lv_iload_n S.1 S.2.1 dX8_nestAt_4 rfl (lv_at hl 1 rfl) ?_
    refine lv_aload_n S.1 S.2.1 dX8_nestAt_5 rfl (lv_at hl 0 rfl) ?_
    obtain ⟨k2, h⟩ := h
    refine mz_geti S hG hM cf_7 fd_228 tw_198 dX8_nestAt_6 k2 ?_
    refine lv_icmp_lt (tgt := 16) S.1 S.2.1 dX8_nestAt_9 (by decide) (fun c3 => ?_) (fun c3 => ?_)
    · have h := h.1 c3
      refine lv_aload_n S.1 S.2.1 dX8_nestAt_16 rfl (lv_at hl 0 rfl) ?_
      refine mz_getr S hG hM cf_7 fd_224 tw_192 dX8_nestAt_17 k2 ?_
      refine lv_iload_n S.1 S.2.1 dX8_nestAt_20 rfl (lv_at hl 1 rfl) ?_
      obtain ⟨a4, e5, h⟩ := h
      refine mz_o1 e5 ?_
      obtain ⟨k6, h⟩ := h
      obtain ⟨b7, h⟩ := h
      refine mz_aald (j := 8) S hG hM dX8_nestAt_21 (by decide) rfl k6 b7 ?_
      exact hB22  (mB μ a4 x1.toNatClampNeg) H locs ls hM hS (lv_sub hl [0] rfl) h
    · have h := h.2 c3
      exact hB12   H locs ls hM hS (lv_sub hl [0] rfl) h
set_option maxRecDepth 100000 in
set_option maxHeartbeats 4000000 in
theorem c_X8_isLost {l : Launch} {G : mgT} {μ : mmT} {o : Nat} {r1 : Option Nat} {x2 : Int32} {Q : Int32 → Prop} (h : w_X8_isLost G μ o r1 x2 Q) : MC G l yX8_isLost cX8_isLost 4 (some .boolean) { frames := 1, cells := 0, slots := 0, locals := 21 } [.ref o, va_rf r1, .int x2] μ (pI (fun r μ' => μ' = μ ∧ Q r)) := by
  refine mz_MC (by decide +kernel) (by simp [lg_sl, mz_cat, mz_cr, mz_ci, mz_cl, mz_cf, mz_cd, mz_cn]) (fun p e s m args below meth c S hG hr hlk hnm => ?_)
  have hB38 : ∀ (s0 : Int32) (H : Heap) (locs : List Loc) (ls : Array Slot), Mm G μ H → va_S (Ah G) s.heap H locs → lv_has ls 4 [(0, .ref o)] → w_X8_isLost_b38 G μ o Q  s0 → W p l e { frames := 1, cells := 0, slots := 0, locals := 21 } s m args below meth c H locs (0) (0) (MQ below (mQ G (pI (fun r μ' => μ' = μ ∧ Q r))) args s 0 0 (Ah G)) (F0 m 38 ls [.int s0]) := by
    intro  s0 H locs ls hM hS hl h
    unfold w_X8_isLost_b38 at h
    obtain ⟨f8, h⟩ := h
    exact mz_iret S hr hlk hM hS (mz_nZ f8) (Nat.le_of_ble_eq_true rfl) (Nat.le_of_ble_eq_true rfl) dX8_isLost_38 ⟨_, rfl, rfl, h⟩
  have hB37 : ∀  (H : Heap) (locs : List Loc) (ls : Array Slot), Mm G μ H → va_S (Ah G) s.heap H locs → lv_has ls 4 [(0, .ref o)] → w_X8_isLost_b37 G μ o Q   → W p l e { frames := 1, cells := 0, slots := 0, locals := 21 } s m args below meth c H locs (0) (0) (MQ below (mQ G (pI (fun r μ' => μ' = μ ∧ Q r))) args s 0 0 (Ah G)) (F0 m 37 ls []) := by
    intro   H locs ls hM hS hl h
    unfold w_X8_isLost_b37 at h
    refine lv_iconst (v := (nI 0)) S.1 S.2.1 dX8_isLost_37 (by decide) ?_
    exact hB38  (nI 0) H locs ls hM hS (lv_sub hl [0] rfl) h
  intro H locs ls hM hS hl
  have hl : lv_has ls 4 [(0, .ref o), (1, va_rf r1), (2, .int x2)] := by simpa [lv_args, mz_cat, mz_cr, mz_ci, mz_cl, mz_cf, mz_cd, mz_cn] using hl
  unfold w_X8_isLost at h
  refine lv_aload_n S.1 S.2.1 dX8_isLost_0 rfl (lv_at hl 0 rfl) ?_
  refine mz_aload_n (x := r1) S.1 S.2.1 dX8_isLost_1 rfl (lv_at hl 1 rfl) ?_
  obtain ⟨a1, e2, h⟩ := h
  refine mz_o0 e2 ?_
  obtain ⟨k3, h⟩ := h
  refine mz_geti S hG hM cf_4 fd_129 tw_165 dX8_isLost_2 k3 ?_
  obtain ⟨k4, h⟩ := h
  refine mz_V S hG hM hS cf_7 k4 (As := [.int (mI μ 129 a1)]) (rest := []) (c_X8_nestAt h) yf_X8_nestAt tw_575 tw_576 tw_577 ⟨Nat.le_of_ble_eq_true rfl, Nat.le_of_ble_eq_true rfl⟩ ⟨(Nat.le_of_ble_eq_true rfl), (Nat.le_of_ble_eq_true rfl)⟩ rfl hl.1 rfl (Nat.le_of_ble_eq_true rfl) dX8_isLost_5 (fun v9 μ9 H locs hp hM hS => ?_)
  obtain ⟨ru5, rfl, e9, h⟩ := hp
  rw [e9] at hM
  refine W.cs (cells' := 0) (slots' := 0) rfl rfl ?_
  refine mz_astore_n (x := ru5) (lv' := [(3, va_rf ru5), (0, .ref o), (1, va_rf r1), (2, .int x2)]) S.1 S.2.1 dX8_isLost_8 rfl hl (by decide) rfl (fun ls hl => ?_)
  refine mz_aload_n (x := ru5) S.1 S.2.1 dX8_isLost_9 rfl (lv_at hl 0 rfl) ?_
  refine mz_ifnull (tgt := 37) S.1 S.2.1 dX8_isLost_10 (by decide) (fun e7 => ?_) (fun a6 e7 => ?_)
  · have h := h.1 e7
    exact hB37   H locs ls hM hS (lv_sub hl [1] rfl) h
  · have h := h.2 a6 e7
    refine mz_aload_n (x := r1) S.1 S.2.1 dX8_isLost_13 rfl (lv_at hl 2 rfl) ?_
    refine mz_o0 e2 ?_
    refine mz_geti S hG hM cf_4 fd_128 tw_162 dX8_isLost_14 k3 ?_
    refine lv_iload_n S.1 S.2.1 dX8_isLost_17 rfl (lv_at hl 3 rfl) ?_
    refine lv_iadd S.1 S.2.1 dX8_isLost_18 ?_
    refine lv_aload_n S.1 S.2.1 dX8_isLost_19 rfl (lv_at hl 1 rfl) ?_
    refine mz_geti S hG hM cf_7 fd_232 tw_206 dX8_isLost_20 k4 ?_
    refine lv_iadd S.1 S.2.1 dX8_isLost_23 ?_
    refine lv_iconst (v := (nI 5)) S.1 S.2.1 dX8_isLost_24 (by decide) ?_
    refine lv_irem S.1 S.2.1 dX8_isLost_25 (by decide) ?_
    refine mz_aload_n (x := ru5) S.1 S.2.1 dX8_isLost_26 rfl (lv_at hl 0 rfl) ?_
    refine mz_o0 e7 ?_
    obtain ⟨k10, h⟩ := h
    refine mz_geti S hG hM cf_5 fd_163 tw_110 dX8_isLost_27 k10 ?_
    refine lv_icmp_ge (tgt := 37) S.1 S.2.1 dX8_isLost_30 (by decide) (fun c11 => ?_) (fun c11 => ?_)
    · have h := h.1 c11
      exact hB37   H locs ls hM hS (lv_sub hl [1] rfl) h
    · have h := h.2 c11
      refine lv_iconst (v := (nI 1)) S.1 S.2.1 dX8_isLost_33 (by decide) ?_
      refine lv_goto (tgt := 38) S.1 S.2.1 dX8_isLost_34 (by decide) ?_
      exact hB38  (nI 1) H locs ls hM hS (lv_sub hl [1] rfl) h
set_option maxRecDepth 100000 in
set_option maxHeartbeats 4000000 in
theorem c_X10_shiftedNap {l : Launch} {G : mgT} {μ : mmT} {x0 : Int32} {Q : Int64 → Prop} (h : w_X10_shiftedNap G μ x0 Q) : MC G l yX10_shiftedNap cX10_shiftedNap 1 (some .long) { frames := 0, cells := 0, slots := 0, locals := 0 } [.int x0] μ (pL (fun r μ' => μ' = μ ∧ Q r)) := by
  refine mz_MC (by decide +kernel) (Nat.le_of_ble_eq_true rfl) (fun p e s m args below meth c S hG hr hlk hnm => ?_)
  intro H locs ls hM hS hl
  have hl : lv_has ls 1 [(0, .int x0)] := hl
  unfold w_X10_shiftedNap at h
  refine lv_lconst (v := lN 1) S.1 S.2.1 dX10_shiftedNap_0 rfl ?_
  refine lv_iload_n S.1 S.2.1 dX10_shiftedNap_1 rfl (lv_at hl 0 rfl) ?_
  refine lv_lshl S.1 S.2.1 dX10_shiftedNap_2 rfl ?_
  exact mz_lret S hr hlk hM hS (Nat.le_of_ble_eq_true rfl) (Nat.le_of_ble_eq_true rfl) dX10_shiftedNap_3 ⟨_, rfl, rfl, h⟩
set_option maxRecDepth 100000 in
set_option maxHeartbeats 4000000 in
theorem c_X8_remove {l : Launch} {G : mgT} {μ : mmT} {o : Nat} {x1 : Int32} {Q : mmT → Prop} (h : w_X8_remove G μ o x1 Q) : MC G l yX8_remove cX8_remove 5 none { frames := 1, cells := 0, slots := 0, locals := 22 } [.ref o, .int x1] μ (pV Q) := by
  refine mz_MC (by decide +kernel) (Nat.le_of_ble_eq_true rfl) (fun p e s m args below meth c S hG hr hlk hnm => ?_)
  have hB22 : ∀ (n : Nat) (r3 : Option Nat) (x4 : Int32) (μ : mmT) (H : Heap) (locs : List Loc) (ls : Array Slot), Mm G μ H → va_S (Ah G) s.heap H locs → lv_has ls 5 [(0, .ref o), (3, va_rf r3), (4, .int x4)] → w_X8_remove_l22 G o Q  n r3 x4 μ → W p l e { frames := 1, cells := 0, slots := 0, locals := 22 } s m args below meth c H locs (0) (0) (MQ below (mQ G (pV Q)) args s 0 0 (Ah G)) (F0 m 22 ls []) := by
    intro  n
    induction n with
    | zero =>
      intro r3 x4 μ H locs ls hM hS hl h
      exact False.elim h
    | succ n ih =>
      intro r3 x4 μ H locs ls hM hS hl h
      have h : w_X8_remove_b22 G o Q  (w_X8_remove_l22 G o Q  n) r3 x4 μ := h
      unfold w_X8_remove_b22 at h
      refine lv_iload S.1 S.2.1 dX8_remove_22 (lv_at hl 2 rfl) ?_
      refine lv_iconst (v := (nI 1)) S.1 S.2.1 dX8_remove_24 (by decide) ?_
      refine lv_iadd S.1 S.2.1 dX8_remove_25 ?_
      refine lv_aload_n S.1 S.2.1 dX8_remove_26 rfl (lv_at hl 0 rfl) ?_
      obtain ⟨k8, h⟩ := h
      refine mz_geti S hG hM cf_7 fd_230 tw_202 dX8_remove_27 k8 ?_
      refine lv_icmp_ge (tgt := 55) S.1 S.2.1 dX8_remove_30 (by decide) (fun c9 => ?_) (fun c9 => ?_)
      · have h := h.1 c9
        refine lv_aload_n S.1 S.2.1 dX8_remove_55 rfl (lv_at hl 0 rfl) ?_
        refine lv_dup S.1 S.2.1 dX8_remove_56 rfl ?_
        refine mz_geti S hG hM cf_7 fd_230 tw_202 dX8_remove_57 k8 ?_
        refine lv_iconst (v := (nI 1)) S.1 S.2.1 dX8_remove_60 (by decide) ?_
        refine lv_isub S.1 S.2.1 dX8_remove_61 ?_
        refine mz_puti S hG hM hS cf_7 fd_230 tw_202 dX8_remove_62 k8 rfl rfl (fun H locs hM hS hz9 => ?_)
        refine lv_aload_n S.1 S.2.1 dX8_remove_65 rfl (lv_at hl 0 rfl) ?_
        refine mz_getr S hG hM cf_7 fd_226 tw_194 dX8_remove_66 k8 ?_
        refine lv_aload_n S.1 S.2.1 dX8_remove_69 rfl (lv_at hl 0 rfl) ?_
        refine mz_geti S hG hM cf_7 fd_230 tw_202 dX8_remove_70 k8 ?_
        refine mz_aload_n (x := r3) S.1 S.2.1 dX8_remove_73 rfl (lv_at hl 1 rfl) ?_
        obtain ⟨a10, e11, h⟩ := h
        refine mz_o2 e11 ?_
        obtain ⟨k12, h⟩ := h
        obtain ⟨a13, e14, h⟩ := h
        refine mz_o0 e14 ?_
        obtain ⟨k15, h⟩ := h
        obtain ⟨b16, h⟩ := h
        refine mz_aast (j := 7) S hG hM hS cf_4 dX8_remove_74 (by decide) rfl k12 k15 b16 (fun H locs hM hS hz9 => ?_)
        exact mz_vret S hr hlk hM hS (Nat.le_of_ble_eq_true rfl) (Nat.le_of_ble_eq_true rfl) dX8_remove_75 ⟨rfl, h⟩
      · have h := h.2 c9
        refine lv_aload_n S.1 S.2.1 dX8_remove_33 rfl (lv_at hl 0 rfl) ?_
        refine mz_getr S hG hM cf_7 fd_226 tw_194 dX8_remove_34 k8 ?_
        refine lv_iload S.1 S.2.1 dX8_remove_37 (lv_at hl 2 rfl) ?_
        refine lv_aload_n S.1 S.2.1 dX8_remove_39 rfl (lv_at hl 0 rfl) ?_
        refine mz_getr S hG hM cf_7 fd_226 tw_194 dX8_remove_40 k8 ?_
        refine lv_iload S.1 S.2.1 dX8_remove_43 (lv_at hl 2 rfl) ?_
        refine lv_iconst (v := (nI 1)) S.1 S.2.1 dX8_remove_45 (by decide) ?_
        refine lv_iadd S.1 S.2.1 dX8_remove_46 ?_
        obtain ⟨a17, e18, h⟩ := h
        refine mz_o1 e18 ?_
        obtain ⟨k19, h⟩ := h
        obtain ⟨b20, h⟩ := h
        refine mz_aald (j := 7) S hG hM dX8_remove_47 (by decide) rfl k19 b20 ?_
        refine mz_o2 e18 ?_
        obtain ⟨a21, e22, h⟩ := h
        refine mz_o0 e22 ?_
        obtain ⟨k23, h⟩ := h
        obtain ⟨b24, h⟩ := h
        refine mz_aast (j := 7) S hG hM hS cf_4 dX8_remove_48 (by decide) rfl k19 k23 b24 (fun H locs hM hS hz9 => ?_)
        refine lv_iinc (v := (x4 + nI 1)) (lv' := [(4, .int (x4 + nI 1)), (0, .ref o), (3, va_rf r3)]) S.1 S.2.1 dX8_remove_49 hl (k := 2) rfl rfl (by decide) (by simp [List.filter, mz_cat]) (fun ls hl => ?_)
        refine lv_goto (tgt := 22) S.1 S.2.1 dX8_remove_52 (by decide) ?_
        exact ih r3 (x4 + nI 1) (sB μ a17 x4.toNatClampNeg (some a21)) H locs ls hM hS (lv_sub hl [1, 2, 0] rfl) h
  intro H locs ls hM hS hl
  have hl : lv_has ls 5 [(0, .ref o), (1, .int x1)] := hl
  unfold w_X8_remove at h
  refine lv_aload_n S.1 S.2.1 dX8_remove_0 rfl (lv_at hl 0 rfl) ?_
  refine lv_iload_n S.1 S.2.1 dX8_remove_1 rfl (lv_at hl 1 rfl) ?_
  obtain ⟨k1, h⟩ := h
  refine mz_V S hG hM hS cf_7 k1 (As := [.int x1]) (rest := []) (c_X8_rowOf h) yf_X8_rowOf tw_498 tw_500 ts_2 ⟨Nat.le_of_ble_eq_true rfl, Nat.le_of_ble_eq_true rfl⟩ ⟨(Nat.le_of_ble_eq_true rfl), (Nat.le_of_ble_eq_true rfl)⟩ rfl hl.1 rfl (Nat.le_of_ble_eq_true rfl) dX8_remove_2 (fun v9 μ9 H locs hp hM hS => ?_)
  obtain ⟨u2, rfl, e9, h⟩ := hp
  rw [e9] at hM
  refine W.cs (cells' := 0) (slots' := 0) rfl rfl ?_
  refine lv_istore_n (lv' := [(2, .int u2), (0, .ref o), (1, .int x1)]) S.1 S.2.1 dX8_remove_5 rfl hl (by decide) rfl (fun ls hl => ?_)
  refine lv_iload_n S.1 S.2.1 dX8_remove_6 rfl (lv_at hl 0 rfl) ?_
  refine lv_iconst (v := (-1)) S.1 S.2.1 dX8_remove_7 (by decide) ?_
  refine lv_icmp_ne (tgt := 12) S.1 S.2.1 dX8_remove_8 (by decide) (fun c3 => ?_) (fun c3 => ?_)
  · have h := h.1 c3
    refine lv_aload_n S.1 S.2.1 dX8_remove_12 rfl (lv_at hl 1 rfl) ?_
    refine mz_getr S hG hM cf_7 fd_226 tw_194 dX8_remove_13 k1 ?_
    refine lv_iload_n S.1 S.2.1 dX8_remove_16 rfl (lv_at hl 0 rfl) ?_
    obtain ⟨a4, e5, h⟩ := h
    refine mz_o1 e5 ?_
    obtain ⟨k6, h⟩ := h
    obtain ⟨b7, h⟩ := h
    refine mz_aald (j := 7) S hG hM dX8_remove_17 (by decide) rfl k6 b7 ?_
    refine mz_astore_n (x := (mB μ a4 u2.toNatClampNeg)) (lv' := [(3, va_rf (mB μ a4 u2.toNatClampNeg)), (2, .int u2), (0, .ref o), (1, .int x1)]) S.1 S.2.1 dX8_remove_18 rfl hl (by decide) rfl (fun ls hl => ?_)
    refine lv_iload_n S.1 S.2.1 dX8_remove_19 rfl (lv_at hl 1 rfl) ?_
    refine lv_istore (i := 4) (lv' := [(4, .int u2), (3, va_rf (mB μ a4 u2.toNatClampNeg)), (2, .int u2), (0, .ref o), (1, .int x1)]) S.1 S.2.1 dX8_remove_20 hl (by decide) (by simp [List.filter, mz_cat]) (fun ls hl => ?_)
    obtain ⟨n9, h⟩ := h
    exact hB22  n9 (mB μ a4 u2.toNatClampNeg) u2 μ H locs ls hM hS (lv_sub hl [3, 1, 0] rfl) h
  · have h := h.2 c3
    exact mz_vret S hr hlk hM hS (Nat.le_of_ble_eq_true rfl) (Nat.le_of_ble_eq_true rfl) dX8_remove_11 ⟨rfl, h⟩

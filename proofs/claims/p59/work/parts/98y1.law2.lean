/-! THE LAW FROM THE START: behind the constructors all is entered at Fx -/
def w_law2 (G : mgT) (μ : mmT) (z : Nat) : Prop :=
  (mK (nO μ z 9) z = 10 ∧ (w_X10_init G (nO μ z 9) (z + 1) z (fun μ2 z3 => (M39 (nA μ2 z3 3 80) ∧ (w_L_sum G (Fx (nA μ2 z3 3 80)) (some z) (fun u4 => (mK (Fx (nA μ2 z3 3 80)) z3 = 35 ∧ (vp_in (nI 0) (mN (Fx (nA μ2 z3 3 80)) z3) ∧ (∃ n, w_L_law_l28 G n (some z) (some z3) (nI 0) (nI 0) (nI 0) 0 (sL (Fx (nA μ2 z3 3 80)) z3 (nI 0).toNatClampNeg u4))))))))))
section LAW2
variable {G : mgT} {μ : mmT} {z : Nat}
theorem law2 (hN : gX G 6 < 2 ^ 31) (hm : M39 μ) : w_law2 G μ z := by
  unfold w_law2
  refine ⟨nO_Ke, n_X10 (o := z) nO_Ke (M39_nO hm (by decide)) (fun μ2 g2 m2 z2 a2 => ⟨M39_nA m2 (fun q => absurd q (by decide)), ?_⟩)⟩
  have k7 : mK (nA μ2 (z + 584) 3 80) (z + 584) = 35 := nA_Ke (μ := μ2) (j := 3) (n := 80)
  have n7 : mN (nA μ2 (z + 584) 3 80) (z + 584) = 80 := nA_Ne (μ := μ2) (j := 3) (n := 80)
  have f7 : Fr (z + 584) μ2 (nA μ2 (z + 584) 3 80) := Fr_nA (Nat.le_refl _)
  generalize nA μ2 (z + 584) 3 80 = μ7 at *
  have iv : Iv (Fx μ7) z 119 0 v00 0 (fun _ => v00) := ok_00 (ZO_fr z2 f7 (by omega)) (ZA_fr a2 f7 (Nat.le_refl _))
  have k8 : mK (Fx μ7) (z + 584) = 35 := k7
  have n8 : mN (Fx μ7) (z + 584) = 80 := n7
  generalize Fx μ7 = μ8 at *
  refine t_sumV (iv.ak (by decide) (by decide) (by decide)) ⟨k8, ?_, 61, ?_⟩
  · rw [n8]
    exact vp_in_nI (by decide) (by decide)
  rw [show (nI 0).toNatClampNeg = 0 from rfl]
  have eL : ∀ j, mL (sL μ8 (z + 584) 0 (sumV v00)) (z + 584) j = if j = 0 then sumV v00 else mL μ8 (z + 584) j := fun j => sL_at
  have fr : Fr (z + 584) μ8 (sL μ8 (z + 584) 0 (sumV v00)) := fun _ _ => ⟨⟨rfl, rfl⟩, fun _ => rfl, fun _ => rfl, fun _ => rfl, fun _ => rfl⟩
  exact lp59 hN 60 0 _ 0 v00 0 (fun _ => v00) rfl (Iv_fr iv fr (Nat.le_refl _)) rfl (Nat.le_refl _) ⟨k8, n8, fun k hk => absurd hk (Nat.not_lt_zero _), by rw [eL, if_pos rfl]⟩
end LAW2
set_option maxRecDepth 100000 in
set_option maxHeartbeats 16000000 in
theorem c_L_law2 {p : Program} {l : Launch} {e : Env} {s : State} {m : MethodId} {args : Array Value} {below : List Frame} {meth : Method} {c : Code} {Z : State → Prop} {G : mgT} {μ : mmT} {z : Nat} (hl0 : l.stackTraces = false) (S : CallFix p m c cL_law 22 s args TT RL) (hG : GK G s s.heap) (hgh : gh G = s.heap.size) (hend : ∀ (pc : Nat) (H : Heap) (ls : Array Slot), decode cL_law pc = .ok (.ireturn, 1) → W p l e room_1 s m args below meth c H [] 752906 6831448 Z (F0 m pc ls [.int 1])) {H : Heap} {locs : List Loc} {ls : Array Slot} (hM : Mm G μ H) (hS : va_S (Ah G) s.heap H locs) (hg : gh G ≤ z) (hz : H.size = z) (hl : lv_has ls 22 [(0, .ref (gX G 5))]) (h : w_law2 G μ z) : W p l e room_1 s m args below meth c H locs 0 0 Z (F0 m 0 ls []) := by
  unfold w_law2 at h
  refine mz_new S hG hM hS hz hg cf_9 nv_9 tw_36 tw_37 tw_1 (Nat.le_of_ble_eq_true rfl) (Nat.le_of_ble_eq_true rfl) dL_law_0 (fun H hM hS hz => ?_)
  have hg := Nat.le_succ_of_le hg
  refine W.cs (cells' := 1) (slots' := 10) rfl rfl ?_
  refine lv_dup S.1 S.2.1 dL_law_3 rfl ?_
  obtain ⟨k1, h⟩ := h
  refine mz_I S hG hM hS hz hg (As := []) (rest := [.ref z]) (c_X10_init h) yf_X10_init rfl tw_38 tw_39 ⟨Nat.le_of_ble_eq_true rfl, Nat.le_of_ble_eq_true rfl⟩ ⟨(Nat.le_of_ble_eq_true rfl), (Nat.le_of_ble_eq_true rfl)⟩ rfl hl.1 rfl (Nat.le_of_ble_eq_true rfl) dL_law_4 (fun μ2 z3 H locs h hM hS hg hz => ?_)
  refine W.cs (cells' := 641) (slots' := 4175) rfl rfl ?_
  refine lv_astore_n (lv' := [(1, .ref z), (0, .ref (gX G 5))]) S.1 S.2.1 dL_law_7 rfl hl (by decide) rfl (fun ls hl => ?_)
  refine lv_bipush (v := (nI 80)) S.1 S.2.1 dL_law_8 (by decide) ?_
  refine mz_newa (j := 3) (atype := .long) S hG hM hS hz hg (by decide) rfl tw_1428 (N := 80) (nI_pos (Nat.le_of_ble_eq_true rfl)) (nI_clamp (Nat.le_of_ble_eq_true rfl)) (Nat.le_of_ble_eq_true rfl) (Nat.le_of_ble_eq_true rfl) (Nat.le_of_ble_eq_true rfl) dL_law_10 (fun H hM hS hz => ?_)
  have hg := Nat.le_succ_of_le hg
  refine W.cs (cells' := 642) (slots' := 4255) rfl rfl ?_
  refine lv_astore_n (lv' := [(2, .ref z3), (1, .ref z), (0, .ref (gX G 5))]) S.1 S.2.1 dL_law_12 rfl hl (by decide) rfl (fun ls hl => ?_)
  refine lv_iconst (v := (nI 0)) S.1 S.2.1 dL_law_13 (by decide) ?_
  refine lv_istore_n (lv' := [(3, .int (nI 0)), (2, .ref z3), (1, .ref z), (0, .ref (gX G 5))]) S.1 S.2.1 dL_law_14 rfl hl (by decide) rfl (fun ls hl => ?_)
  refine lv_aload_n S.1 S.2.1 dL_law_15 rfl (lv_at hl 1 rfl) ?_
  refine lv_iload_n S.1 S.2.1 dL_law_16 rfl (lv_at hl 0 rfl) ?_
  refine lv_aload_n S.1 S.2.1 dL_law_17 rfl (lv_at hl 2 rfl) ?_
  obtain ⟨hm39, h⟩ := h
  have hM := Mm_fx hM hm39
  refine mz_S S hG hM hS (As := [.ref z]) (rest := [.int (nI 0), .ref z3]) (c_L_sum hl0 h) yf_L_sum tw_1104 tw_1105 ⟨Nat.le_of_ble_eq_true rfl, Nat.le_of_ble_eq_true rfl⟩ ⟨(Nat.le_of_ble_eq_true rfl), (Nat.le_of_ble_eq_true rfl)⟩ rfl hl.1 rfl (Nat.le_of_ble_eq_true rfl) dL_law_18 (fun v9 μ9 H locs hp hM hS => ?_)
  obtain ⟨u4, rfl, e9, h⟩ := hp
  rw [e9] at hM
  refine W.cs (cells' := 941) (slots' := 6049) rfl rfl ?_
  obtain ⟨k5, h⟩ := h
  obtain ⟨b6, h⟩ := h
  refine mz_last S hG hM hS dL_law_21 k5 b6 (fun H locs hM hS hz9 => ?_)
  refine lv_iconst (v := (nI 0)) S.1 S.2.1 dL_law_22 (by decide) ?_
  refine lv_istore (lv' := [(4, .int (nI 0)), (3, .int (nI 0)), (2, .ref z3), (1, .ref z), (0, .ref (gX G 5))]) S.1 S.2.1 dL_law_23 hl (by decide) rfl (fun ls hl => ?_)
  refine lv_iconst (v := (nI 0)) S.1 S.2.1 dL_law_25 (by decide) ?_
  refine lv_istore (lv' := [(5, .int (nI 0)), (4, .int (nI 0)), (3, .int (nI 0)), (2, .ref z3), (1, .ref z), (0, .ref (gX G 5))]) S.1 S.2.1 dL_law_26 hl (by decide) rfl (fun ls hl => ?_)
  obtain ⟨n9, h⟩ := h
  refine W.widen (k := 941 + 2960 * 0) (n := 6049 + 17792 * 0) (by omega) (by omega) ?_
  exact cB_L_law_28 hl0 S hG hgh hend  n9 (some z) (some z3) (nI 0) (nI 0) (nI 0) 0 (sL (Fx (nA μ2 z3 3 80)) z3 (nI 0).toNatClampNeg u4) H locs ls hM hS (lv_sub hl [5, 4, 3, 2, 1, 0] rfl) h

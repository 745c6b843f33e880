/-! THE LAW FROM THE START -/
section FX
variable {G : mgT} {μ : mmT} {H : Heap}
theorem arrV_cg {c : ClassId} {n : Nat} {f g : Nat → Value} (h : ∀ i, i < n → f i = g i) : arrV c n f = arrV c n g := by
  have e : (fun i : Fin n => f i.val) = (fun i : Fin n => g i.val) := funext fun i => h i.1 i.2
  unfold arrV
  rw [e]
theorem mmE_fx {j a i : Nat} (h : ¬ (mK μ a = 39 ∧ 16 ≤ i)) : mmE (Fx μ) j a i = mmE μ j a i := by
  have e := Fx_B h
  match j with
  | 0 => rfl
  | 1 => rfl
  | 2 => rfl
  | 3 => rfl
  | 4 => rfl
  | j + 5 => exact congrArg va_rf e
theorem Mm_fx (h : Mm G μ H) (hm : M39 μ) : Mm G (Fx μ) H := by
  intro a ha
  obtain ⟨h1, h2, h3, h4⟩ := h a ha
  refine ⟨h1, h2, h3, fun j hj => ?_⟩
  obtain ⟨q1, q2⟩ := h4 j hj
  refine ⟨q1, q2.trans (congrArg some (arrV_cg (fun i hi => (mmE_fx (fun e => ?_)).symm)))⟩
  have := hm a e.1
  omega
end FX
set_option maxRecDepth 100000 in
set_option maxHeartbeats 16000000 in
theorem c_L_law2 {p : Program} {l : Launch} {e : Env} {s : State} {m : MethodId} {args : Array Value} {below : List Frame} {meth : Method} {c : Code} {Z : State → Prop} {G : mgT} {o L : Nat} {xs : Nat → Int32} {μ : mmT} {z : Nat} (hl0 : l.stackTraces = false) (S : CallFix p m c cL_law 9 s args TT RL) (hG : GK G s s.heap) (hX : va_X o L xs s s.heap) (hbl : o < s.heap.size) (hbA : ¬ Ah G o) (hgh : gh G = s.heap.size) (hend : ∀ (pc : Nat) (H : Heap) (ls : Array Slot), decode cL_law pc = .ok (.ireturn, 1) → W p l e room_1 s m args below meth c H [] 603072 7223402 Z (F0 m pc ls [.int 1])) {H : Heap} {locs : List Loc} {ls : Array Slot} (hM : Mm G μ H) (hS : va_S (Ah G) s.heap H locs) (hg : gh G ≤ z) (hz : H.size = z) (hl : lv_has ls 9 [(0, .ref o)]) (h : w_law2 G o L xs μ z) : W p l e room_1 s m args below meth c H locs 0 0 Z (F0 m 0 ls []) := by
  unfold w_law2 at h
  refine mz_new S hG hM hS hz hg cf_9 nv_9 tw_38 tw_39 tw_1 (Nat.le_of_ble_eq_true rfl) (Nat.le_of_ble_eq_true rfl) dL_law_0 (fun H hM hS hz => ?_)
  have hg := Nat.le_succ_of_le hg
  refine W.cs (cells' := 1) (slots' := 10) rfl rfl ?_
  refine lv_dup S.1 S.2.1 dL_law_3 rfl ?_
  obtain ⟨k1, h⟩ := h
  refine mz_I S hG hM hS hz hg (As := []) (rest := [.ref z]) (c_X10_init h) yf_X10_init rfl tw_40 tw_41 ⟨Nat.le_of_ble_eq_true rfl, Nat.le_of_ble_eq_true rfl⟩ ⟨(Nat.le_of_ble_eq_true rfl), (Nat.le_of_ble_eq_true rfl)⟩ rfl hl.1 rfl (Nat.le_of_ble_eq_true rfl) dL_law_4 (fun μ2 z3 H locs h hM hS hg hz => ?_)
  refine W.cs (cells' := 641) (slots' := 4175) rfl rfl ?_
  refine lv_astore_n (i := 1) (lv' := [(1, .ref z), (0, .ref o)]) S.1 S.2.1 dL_law_7 rfl hl (by decide) rfl (fun ls hl => ?_)
  refine mz_new S hG hM hS hz hg cf_10 nv_10 tw_1476 tw_1477 tw_16 (Nat.le_of_ble_eq_true rfl) (Nat.le_of_ble_eq_true rfl) dL_law_8 (fun H hM hS hz => ?_)
  have hg := Nat.le_succ_of_le hg
  refine W.cs (cells' := 642) (slots' := 4195) rfl rfl ?_
  refine lv_dup S.1 S.2.1 dL_law_11 rfl ?_
  obtain ⟨k4, h⟩ := h
  refine mz_I S hG hM hS hz hg (As := []) (rest := [.ref z3]) (c_X11_init h) yf_X11_init rfl tw_1478 tw_1479 ⟨Nat.le_of_ble_eq_true rfl, Nat.le_of_ble_eq_true rfl⟩ ⟨(Nat.le_of_ble_eq_true rfl), (Nat.le_of_ble_eq_true rfl)⟩ rfl hl.1 rfl (Nat.le_of_ble_eq_true rfl) dL_law_12 (fun μ5 z6 H locs h hM hS hg hz => ?_)
  refine W.cs (cells' := 650) (slots' := 7571) rfl rfl ?_
  refine lv_astore_n (lv' := [(2, .ref z3), (1, .ref z), (0, .ref o)]) S.1 S.2.1 dL_law_15 rfl hl (by decide) rfl (fun ls hl => ?_)
  refine lv_iconst (v := (nI 1)) S.1 S.2.1 dL_law_16 (by decide) ?_
  refine mz_newa (j := 3) (atype := .long) S hG hM hS hz hg (by decide) rfl tw_1970 (N := 1) (nI_pos (Nat.le_of_ble_eq_true rfl)) (nI_clamp (Nat.le_of_ble_eq_true rfl)) (Nat.le_of_ble_eq_true rfl) (Nat.le_of_ble_eq_true rfl) (Nat.le_of_ble_eq_true rfl) dL_law_17 (fun H hM hS hz => ?_)
  have hg := Nat.le_succ_of_le hg
  refine W.cs (cells' := 651) (slots' := 7572) rfl rfl ?_
  refine lv_astore_n (lv' := [(3, .ref z6), (2, .ref z3), (1, .ref z), (0, .ref o)]) S.1 S.2.1 dL_law_19 rfl hl (by decide) rfl (fun ls hl => ?_)
  refine lv_iconst (v := (nI 1)) S.1 S.2.1 dL_law_20 (by decide) ?_
  refine mz_newa (j := 4) (atype := .double) S hG hM hS hz hg (by decide) rfl tw_1971 (N := 1) (nI_pos (Nat.le_of_ble_eq_true rfl)) (nI_clamp (Nat.le_of_ble_eq_true rfl)) (Nat.le_of_ble_eq_true rfl) (Nat.le_of_ble_eq_true rfl) (Nat.le_of_ble_eq_true rfl) dL_law_21 (fun H hM hS hz => ?_)
  have hg := Nat.le_succ_of_le hg
  refine W.cs (cells' := 652) (slots' := 7573) rfl rfl ?_
  refine lv_astore (lv' := [(4, .ref (z6 + 1)), (3, .ref z6), (2, .ref z3), (1, .ref z), (0, .ref o)]) S.1 S.2.1 dL_law_23 hl (by decide) rfl (fun ls hl => ?_)
  refine lv_iconst (v := (nI 0)) S.1 S.2.1 dL_law_25 (by decide) ?_
  refine lv_istore (lv' := [(5, .int (nI 0)), (4, .ref (z6 + 1)), (3, .ref z6), (2, .ref z3), (1, .ref z), (0, .ref o)]) S.1 S.2.1 dL_law_26 hl (by decide) rfl (fun ls hl => ?_)
  obtain ⟨hm39, n9, h⟩ := h
  have hM := Mm_fx hM hm39
  refine W.widen (k := 652 + 2 * (0)) (n := 7573 + 12 * (0)) (by omega) (by omega) ?_
  exact cB_L_law_28 hl0 S hG hX hbl hbA hgh hend  n9 (some z) (some z3) (some z6) (some (z6 + 1)) (nI 0) 0 (Fx (nA (nA μ5 z6 3 1) (z6 + 1) 4 1)) H locs ls hM hS (lv_sub hl [5, 4, 3, 2, 1, 0] rfl) h

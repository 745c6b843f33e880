def w_X6_hasRoom_b14 (G : mgT) (μ : mmT) (o : Nat) (Q : Int32 → Prop) (s0 : Int32) : Prop :=
  ((s0 = 0 ∨ s0 = 1) ∧ (Q s0))
def w_X6_hasRoom (G : mgT) (μ : mmT) (o : Nat) (Q : Int32 → Prop) : Prop :=
  (mK μ o = 6 ∧ (((nI 8) ≤ (mI μ 165 o) → (w_X6_hasRoom_b14 G μ o Q  (nI 0))) ∧ (¬ (nI 8) ≤ (mI μ 165 o) → (w_X6_hasRoom_b14 G μ o Q  (nI 1)))))
set_option maxRecDepth 100000 in
set_option maxHeartbeats 4000000 in
theorem c_X6_hasRoom {l : Launch} {G : mgT} {μ : mmT} {o : Nat} {Q : Int32 → Prop} (h : w_X6_hasRoom G μ o Q) : MC G l yX6_hasRoom cX6_hasRoom 1 (some .boolean) { frames := 0, cells := 0, slots := 0, locals := 0 } [.ref o] μ (pI (fun r μ' => μ' = μ ∧ Q r)) := by
  refine mz_MC (by decide +kernel) (Nat.le_of_ble_eq_true rfl) (fun p e s m args below meth c S hG hr hlk hnm => ?_)
  have hB14 : ∀ (s0 : Int32) (H : Heap) (locs : List Loc) (ls : Array Slot), Mm G μ H → va_S (Ah G) s.heap H locs → lv_has ls 1 [(0, .ref o)] → w_X6_hasRoom_b14 G μ o Q  s0 → W p l e { frames := 0, cells := 0, slots := 0, locals := 0 } s m args below meth c H locs 0 0 (MQ below (mQ G (pI (fun r μ' => μ' = μ ∧ Q r))) args s 0 0 (Ah G)) (F0 m 14 ls [.int s0]) := by
    intro  s0 H locs ls hM hS hl h
    unfold w_X6_hasRoom_b14 at h
    obtain ⟨f3, h⟩ := h
    exact mz_iret S hr hlk hM hS (mz_nZ f3) (Nat.le_of_ble_eq_true rfl) (Nat.le_of_ble_eq_true rfl) dX6_hasRoom_14 ⟨_, rfl, rfl, h⟩
  intro H locs ls hM hS hl
  have hl : lv_has ls 1 [(0, .ref o)] := hl
  unfold w_X6_hasRoom at h
  refine lv_aload_n S.1 S.2.1 dX6_hasRoom_0 rfl (lv_at hl 0 rfl) ?_
  obtain ⟨k1, h⟩ := h
  refine mz_geti S hG hM cf_5 fd_165 tw_115 dX6_hasRoom_1 k1 ?_
  refine lv_bipush (v := (nI 8)) S.1 S.2.1 dX6_hasRoom_4 (by decide) ?_
  refine lv_icmp_ge (tgt := 13) S.1 S.2.1 dX6_hasRoom_6 (by decide) (fun c2 => ?_) (fun c2 => ?_)
  · have h := h.1 c2
    refine lv_iconst (v := (nI 0)) S.1 S.2.1 dX6_hasRoom_13 (by decide) ?_
    exact hB14  (nI 0) H locs ls hM hS (lv_sub hl [0] rfl) h
  · have h := h.2 c2
    refine lv_iconst (v := (nI 1)) S.1 S.2.1 dX6_hasRoom_9 (by decide) ?_
    refine lv_goto (tgt := 14) S.1 S.2.1 dX6_hasRoom_10 (by decide) ?_
    exact hB14  (nI 1) H locs ls hM hS (lv_sub hl [0] rfl) h
def w_X6_knows_b2 (G : mgT) (μ : mmT) (o : Nat) (Q : Int32 → Prop) (K2 : Int32 → Int32 → Prop) (x1 : Int32) (x2 : Int32) : Prop :=
  (mK μ o = 6 ∧ (((mI μ 166 o) ≤ x2 → (Q (nI 0))) ∧ (¬ (mI μ 166 o) ≤ x2 → (∃ a3, (mR μ 161 o) = some a3 ∧ (mK μ a3 = 34 ∧ (vp_in x2 (mN μ a3) ∧ ((¬ (mA μ a3 x2.toNatClampNeg) = x1 → (K2 x1 (x2 + nI 1))) ∧ ((mA μ a3 x2.toNatClampNeg) = x1 → (Q (nI 1))))))))))
def w_X6_knows_l2 (G : mgT) (μ : mmT) (o : Nat) (Q : Int32 → Prop) : Nat → Int32 → Int32 → Prop
  | 0 => fun _ _ => False
  | n + 1 => fun x1 x2 => w_X6_knows_b2 G μ o Q  (w_X6_knows_l2 G μ o Q  n) x1 x2
def w_X6_knows (G : mgT) (μ : mmT) (o : Nat) (x1 : Int32) (Q : Int32 → Prop) : Prop :=
  (∃ n, w_X6_knows_l2 G μ o Q  n x1 (nI 0))
set_option maxRecDepth 100000 in
set_option maxHeartbeats 4000000 in
theorem c_X6_knows {l : Launch} {G : mgT} {μ : mmT} {o : Nat} {x1 : Int32} {Q : Int32 → Prop} (h : w_X6_knows G μ o x1 Q) : MC G l yX6_knows cX6_knows 3 (some .boolean) { frames := 0, cells := 0, slots := 0, locals := 0 } [.ref o, .int x1] μ (pI (fun r μ' => μ' = μ ∧ Q r)) := by
  refine mz_MC (by decide +kernel) (Nat.le_of_ble_eq_true rfl) (fun p e s m args below meth c S hG hr hlk hnm => ?_)
  have hB2 : ∀ (n : Nat) (x1 : Int32) (x2 : Int32) (H : Heap) (locs : List Loc) (ls : Array Slot), Mm G μ H → va_S (Ah G) s.heap H locs → lv_has ls 3 [(0, .ref o), (1, .int x1), (2, .int x2)] → w_X6_knows_l2 G μ o Q  n x1 x2 → W p l e { frames := 0, cells := 0, slots := 0, locals := 0 } s m args below meth c H locs 0 0 (MQ below (mQ G (pI (fun r μ' => μ' = μ ∧ Q r))) args s 0 0 (Ah G)) (F0 m 2 ls []) := by
    intro  n
    induction n with
    | zero =>
      intro x1 x2 H locs ls hM hS hl h
      exact False.elim h
    | succ n ih =>
      intro x1 x2 H locs ls hM hS hl h
      have h : w_X6_knows_b2 G μ o Q  (w_X6_knows_l2 G μ o Q  n) x1 x2 := h
      unfold w_X6_knows_b2 at h
      refine lv_iload_n S.1 S.2.1 dX6_knows_2 rfl (lv_at hl 2 rfl) ?_
      refine lv_aload_n S.1 S.2.1 dX6_knows_3 rfl (lv_at hl 0 rfl) ?_
      obtain ⟨k1, h⟩ := h
      refine mz_geti S hG hM cf_5 fd_166 tw_118 dX6_knows_4 k1 ?_
      refine lv_icmp_ge (tgt := 28) S.1 S.2.1 dX6_knows_7 (by decide) (fun c2 => ?_) (fun c2 => ?_)
      · have h := h.1 c2
        refine lv_iconst (v := (nI 0)) S.1 S.2.1 dX6_knows_28 (by decide) ?_
        exact mz_iret S hr hlk hM hS rfl (Nat.le_of_ble_eq_true rfl) (Nat.le_of_ble_eq_true rfl) dX6_knows_29 ⟨_, rfl, rfl, h⟩
      · have h := h.2 c2
        refine lv_aload_n S.1 S.2.1 dX6_knows_10 rfl (lv_at hl 0 rfl) ?_
        refine mz_getr S hG hM cf_5 fd_161 tw_106 dX6_knows_11 k1 ?_
        refine lv_iload_n S.1 S.2.1 dX6_knows_14 rfl (lv_at hl 2 rfl) ?_
        obtain ⟨a3, e4, h⟩ := h
        refine mz_o1 e4 ?_
        obtain ⟨k5, h⟩ := h
        obtain ⟨b6, h⟩ := h
        refine mz_iald S hG hM dX6_knows_15 k5 b6 ?_
        refine lv_iload_n S.1 S.2.1 dX6_knows_16 rfl (lv_at hl 1 rfl) ?_
        refine lv_icmp_ne (tgt := 22) S.1 S.2.1 dX6_knows_17 (by decide) (fun c7 => ?_) (fun c7 => ?_)
        · have h := h.1 c7
          refine lv_iinc (v := (x2 + nI 1)) (lv' := [(2, .int (x2 + nI 1)), (0, .ref o), (1, .int x1)]) S.1 S.2.1 dX6_knows_22 hl (k := 2) rfl rfl (by decide) rfl (fun ls hl => ?_)
          refine lv_goto (tgt := 2) S.1 S.2.1 dX6_knows_25 (by decide) ?_
          exact ih x1 (x2 + nI 1) H locs ls hM hS (lv_sub hl [1, 2, 0] rfl) h
        · have h := h.2 c7
          refine lv_iconst (v := (nI 1)) S.1 S.2.1 dX6_knows_20 (by decide) ?_
          exact mz_iret S hr hlk hM hS rfl (Nat.le_of_ble_eq_true rfl) (Nat.le_of_ble_eq_true rfl) dX6_knows_21 ⟨_, rfl, rfl, h⟩
  intro H locs ls hM hS hl
  have hl : lv_has ls 3 [(0, .ref o), (1, .int x1)] := hl
  unfold w_X6_knows at h
  refine lv_iconst (v := (nI 0)) S.1 S.2.1 dX6_knows_0 (by decide) ?_
  refine lv_istore_n (lv' := [(2, .int (nI 0)), (0, .ref o), (1, .int x1)]) S.1 S.2.1 dX6_knows_1 rfl hl (by decide) rfl (fun ls hl => ?_)
  obtain ⟨n, h⟩ := h
  exact hB2  n x1 (nI 0) H locs ls hM hS (lv_sub hl [1, 2, 0] rfl) h
def w_X8_rowOf_b2 (G : mgT) (μ : mmT) (o : Nat) (Q : Int32 → Prop) (K2 : Int32 → Int32 → Prop) (x1 : Int32) (x2 : Int32) : Prop :=
  (mK μ o = 8 ∧ (((mI μ 230 o) ≤ x2 → (Q (-1))) ∧ (¬ (mI μ 230 o) ≤ x2 → (∃ a3, (mR μ 226 o) = some a3 ∧ (mK μ a3 = 39 ∧ (vp_in x2 (mN μ a3) ∧ (∃ a7, (mB μ a3 x2.toNatClampNeg) = some a7 ∧ (mK μ a7 = 5 ∧ ((¬ (mI μ 128 a7) = x1 → (K2 x1 (x2 + nI 1))) ∧ ((mI μ 128 a7) = x1 → (Q x2)))))))))))
def w_X8_rowOf_l2 (G : mgT) (μ : mmT) (o : Nat) (Q : Int32 → Prop) : Nat → Int32 → Int32 → Prop
  | 0 => fun _ _ => False
  | n + 1 => fun x1 x2 => w_X8_rowOf_b2 G μ o Q  (w_X8_rowOf_l2 G μ o Q  n) x1 x2
def w_X8_rowOf (G : mgT) (μ : mmT) (o : Nat) (x1 : Int32) (Q : Int32 → Prop) : Prop :=
  (∃ n, w_X8_rowOf_l2 G μ o Q  n x1 (nI 0))
set_option maxRecDepth 100000 in
set_option maxHeartbeats 4000000 in
theorem c_X8_rowOf {l : Launch} {G : mgT} {μ : mmT} {o : Nat} {x1 : Int32} {Q : Int32 → Prop} (h : w_X8_rowOf G μ o x1 Q) : MC G l yX8_rowOf cX8_rowOf 3 (some .int) { frames := 0, cells := 0, slots := 0, locals := 0 } [.ref o, .int x1] μ (pI (fun r μ' => μ' = μ ∧ Q r)) := by
  refine mz_MC (by decide +kernel) (Nat.le_of_ble_eq_true rfl) (fun p e s m args below meth c S hG hr hlk hnm => ?_)
  have hB2 : ∀ (n : Nat) (x1 : Int32) (x2 : Int32) (H : Heap) (locs : List Loc) (ls : Array Slot), Mm G μ H → va_S (Ah G) s.heap H locs → lv_has ls 3 [(0, .ref o), (1, .int x1), (2, .int x2)] → w_X8_rowOf_l2 G μ o Q  n x1 x2 → W p l e { frames := 0, cells := 0, slots := 0, locals := 0 } s m args below meth c H locs 0 0 (MQ below (mQ G (pI (fun r μ' => μ' = μ ∧ Q r))) args s 0 0 (Ah G)) (F0 m 2 ls []) := by
    intro  n
    induction n with
    | zero =>
      intro x1 x2 H locs ls hM hS hl h
      exact False.elim h
    | succ n ih =>
      intro x1 x2 H locs ls hM hS hl h
      have h : w_X8_rowOf_b2 G μ o Q  (w_X8_rowOf_l2 G μ o Q  n) x1 x2 := h
      unfold w_X8_rowOf_b2 at h
      refine lv_iload_n S.1 S.2.1 dX8_rowOf_2 rfl (lv_at hl 2 rfl) ?_
      refine lv_aload_n S.1 S.2.1 dX8_rowOf_3 rfl (lv_at hl 0 rfl) ?_
      obtain ⟨k1, h⟩ := h
      refine mz_geti S hG hM cf_7 fd_230 tw_205 dX8_rowOf_4 k1 ?_
      refine lv_icmp_ge (tgt := 31) S.1 S.2.1 dX8_rowOf_7 (by decide) (fun c2 => ?_) (fun c2 => ?_)
      · have h := h.1 c2
        refine lv_iconst (v := (-1)) S.1 S.2.1 dX8_rowOf_31 (by decide) ?_
        exact mz_iret S hr hlk hM hS rfl (Nat.le_of_ble_eq_true rfl) (Nat.le_of_ble_eq_true rfl) dX8_rowOf_32 ⟨_, rfl, rfl, h⟩
      · have h := h.2 c2
        refine lv_aload_n S.1 S.2.1 dX8_rowOf_10 rfl (lv_at hl 0 rfl) ?_
        refine mz_getr S hG hM cf_7 fd_226 tw_197 dX8_rowOf_11 k1 ?_
        refine lv_iload_n S.1 S.2.1 dX8_rowOf_14 rfl (lv_at hl 2 rfl) ?_
        obtain ⟨a3, e4, h⟩ := h
        refine mz_o1 e4 ?_
        obtain ⟨k5, h⟩ := h
        obtain ⟨b6, h⟩ := h
        refine mz_aald (j := 7) S hG hM dX8_rowOf_15 (by decide) rfl k5 b6 ?_
        obtain ⟨a7, e8, h⟩ := h
        refine mz_o0 e8 ?_
        obtain ⟨k9, h⟩ := h
        refine mz_geti S hG hM cf_4 fd_128 tw_164 dX8_rowOf_16 k9 ?_
        refine lv_iload_n S.1 S.2.1 dX8_rowOf_19 rfl (lv_at hl 1 rfl) ?_
        refine lv_icmp_ne (tgt := 25) S.1 S.2.1 dX8_rowOf_20 (by decide) (fun c10 => ?_) (fun c10 => ?_)
        · have h := h.1 c10
          refine lv_iinc (v := (x2 + nI 1)) (lv' := [(2, .int (x2 + nI 1)), (0, .ref o), (1, .int x1)]) S.1 S.2.1 dX8_rowOf_25 hl (k := 2) rfl rfl (by decide) rfl (fun ls hl => ?_)
          refine lv_goto (tgt := 2) S.1 S.2.1 dX8_rowOf_28 (by decide) ?_
          exact ih x1 (x2 + nI 1) H locs ls hM hS (lv_sub hl [1, 2, 0] rfl) h
        · have h := h.2 c10
          refine lv_iload_n S.1 S.2.1 dX8_rowOf_23 rfl (lv_at hl 2 rfl) ?_
          exact mz_iret S hr hlk hM hS rfl (Nat.le_of_ble_eq_true rfl) (Nat.le_of_ble_eq_true rfl) dX8_rowOf_24 ⟨_, rfl, rfl, h⟩
  intro H locs ls hM hS hl
  have hl : lv_has ls 3 [(0, .ref o), (1, .int x1)] := hl
  unfold w_X8_rowOf at h
  refine lv_iconst (v := (nI 0)) S.1 S.2.1 dX8_rowOf_0 (by decide) ?_
  refine lv_istore_n (lv' := [(2, .int (nI 0)), (0, .ref o), (1, .int x1)]) S.1 S.2.1 dX8_rowOf_1 rfl hl (by decide) rfl (fun ls hl => ?_)
  obtain ⟨n, h⟩ := h
  exact hB2  n x1 (nI 0) H locs ls hM hS (lv_sub hl [1, 2, 0] rfl) h
def w_X11_of (G : mgT) (μ : mmT) (o : Nat) (x1 : Int32) (x2 : Int32) (Q : Int32 → Prop) : Prop :=
  (mK μ o = 11 ∧ (∃ a2, (mR μ 321 o) = some a2 ∧ (mK μ a2 = 34 ∧ (vp_in (((nI 146) + ((nI 7) * x1)) + x2) (mN μ a2) ∧ (Q (mA μ a2 (((nI 146) + ((nI 7) * x1)) + x2).toNatClampNeg))))))
set_option maxRecDepth 100000 in
set_option maxHeartbeats 4000000 in
theorem c_X11_of {l : Launch} {G : mgT} {μ : mmT} {o : Nat} {x1 : Int32} {x2 : Int32} {Q : Int32 → Prop} (h : w_X11_of G μ o x1 x2 Q) : MC G l yX11_of cX11_of 3 (some .int) { frames := 0, cells := 0, slots := 0, locals := 0 } [.ref o, .int x1, .int x2] μ (pI (fun r μ' => μ' = μ ∧ Q r)) := by
  refine mz_MC (by decide +kernel) (Nat.le_of_ble_eq_true rfl) (fun p e s m args below meth c S hG hr hlk hnm => ?_)
  intro H locs ls hM hS hl
  have hl : lv_has ls 3 [(0, .ref o), (1, .int x1), (2, .int x2)] := hl
  unfold w_X11_of at h
  refine lv_aload_n S.1 S.2.1 dX11_of_0 rfl (lv_at hl 0 rfl) ?_
  obtain ⟨k1, h⟩ := h
  refine mz_getr S hG hM cf_10 fd_321 tw_1483 dX11_of_1 k1 ?_
  refine lv_sipush (v := (nI 146)) S.1 S.2.1 dX11_of_4 (by decide) ?_
  refine lv_bipush (v := (nI 7)) S.1 S.2.1 dX11_of_7 (by decide) ?_
  refine lv_iload_n S.1 S.2.1 dX11_of_9 rfl (lv_at hl 1 rfl) ?_
  refine lv_imul S.1 S.2.1 dX11_of_10 ?_
  refine lv_iadd S.1 S.2.1 dX11_of_11 ?_
  refine lv_iload_n S.1 S.2.1 dX11_of_12 rfl (lv_at hl 2 rfl) ?_
  refine lv_iadd S.1 S.2.1 dX11_of_13 ?_
  obtain ⟨a2, e3, h⟩ := h
  refine mz_o1 e3 ?_
  obtain ⟨k4, h⟩ := h
  obtain ⟨b5, h⟩ := h
  refine mz_iald S hG hM dX11_of_14 k4 b5 ?_
  exact mz_iret S hr hlk hM hS rfl (Nat.le_of_ble_eq_true rfl) (Nat.le_of_ble_eq_true rfl) dX11_of_15 ⟨_, rfl, rfl, h⟩
def w_X11_placeOf_b2 (G : mgT) (μ : mmT) (o : Nat) (Q : Int32 → Prop) (K2 : Int32 → Int32 → Prop) (x1 : Int32) (x2 : Int32) : Prop :=
  (mK μ o = 11 ∧ (∃ a2, (mR μ 321 o) = some a2 ∧ (mK μ a2 = 34 ∧ (vp_in (nI 2) (mN μ a2) ∧ (((mA μ a2 (nI 2).toNatClampNeg) ≤ x2 → (Q (-1))) ∧ (¬ (mA μ a2 (nI 2).toNatClampNeg) ≤ x2 → (w_X11_of G μ o x2 (nI 0) (fun u7 => ((¬ u7 = x1 → (K2 x1 (x2 + nI 1))) ∧ (u7 = x1 → (Q x2)))))))))))
def w_X11_placeOf_l2 (G : mgT) (μ : mmT) (o : Nat) (Q : Int32 → Prop) : Nat → Int32 → Int32 → Prop
  | 0 => fun _ _ => False
  | n + 1 => fun x1 x2 => w_X11_placeOf_b2 G μ o Q  (w_X11_placeOf_l2 G μ o Q  n) x1 x2
def w_X11_placeOf (G : mgT) (μ : mmT) (o : Nat) (x1 : Int32) (Q : Int32 → Prop) : Prop :=
  (∃ n, w_X11_placeOf_l2 G μ o Q  n x1 (nI 0))
set_option maxRecDepth 100000 in
set_option maxHeartbeats 4000000 in
theorem c_X11_placeOf {l : Launch} {G : mgT} {μ : mmT} {o : Nat} {x1 : Int32} {Q : Int32 → Prop} (h : w_X11_placeOf G μ o x1 Q) : MC G l yX11_placeOf cX11_placeOf 3 (some .int) { frames := 1, cells := 0, slots := 0, locals := 22 } [.ref o, .int x1] μ (pI (fun r μ' => μ' = μ ∧ Q r)) := by
  refine mz_MC (by decide +kernel) (Nat.le_of_ble_eq_true rfl) (fun p e s m args below meth c S hG hr hlk hnm => ?_)
  have hB2 : ∀ (n : Nat) (x1 : Int32) (x2 : Int32) (H : Heap) (locs : List Loc) (ls : Array Slot), Mm G μ H → va_S (Ah G) s.heap H locs → lv_has ls 3 [(0, .ref o), (1, .int x1), (2, .int x2)] → w_X11_placeOf_l2 G μ o Q  n x1 x2 → W p l e { frames := 1, cells := 0, slots := 0, locals := 22 } s m args below meth c H locs 0 0 (MQ below (mQ G (pI (fun r μ' => μ' = μ ∧ Q r))) args s 0 0 (Ah G)) (F0 m 2 ls []) := by
    intro  n
    induction n with
    | zero =>
      intro x1 x2 H locs ls hM hS hl h
      exact False.elim h
    | succ n ih =>
      intro x1 x2 H locs ls hM hS hl h
      have h : w_X11_placeOf_b2 G μ o Q  (w_X11_placeOf_l2 G μ o Q  n) x1 x2 := h
      unfold w_X11_placeOf_b2 at h
      refine lv_iload_n S.1 S.2.1 dX11_placeOf_2 rfl (lv_at hl 2 rfl) ?_
      refine lv_aload_n S.1 S.2.1 dX11_placeOf_3 rfl (lv_at hl 0 rfl) ?_
      obtain ⟨k1, h⟩ := h
      refine mz_getr S hG hM cf_10 fd_321 tw_1483 dX11_placeOf_4 k1 ?_
      refine lv_iconst (v := (nI 2)) S.1 S.2.1 dX11_placeOf_7 (by decide) ?_
      obtain ⟨a2, e3, h⟩ := h
      refine mz_o1 e3 ?_
      obtain ⟨k4, h⟩ := h
      obtain ⟨b5, h⟩ := h
      refine mz_iald S hG hM dX11_placeOf_8 k4 b5 ?_
      refine lv_icmp_ge (tgt := 30) S.1 S.2.1 dX11_placeOf_9 (by decide) (fun c6 => ?_) (fun c6 => ?_)
      · have h := h.1 c6
        refine lv_iconst (v := (-1)) S.1 S.2.1 dX11_placeOf_30 (by decide) ?_
        exact mz_iret S hr hlk hM hS rfl (Nat.le_of_ble_eq_true rfl) (Nat.le_of_ble_eq_true rfl) dX11_placeOf_31 ⟨_, rfl, rfl, h⟩
      · have h := h.2 c6
        refine lv_aload_n S.1 S.2.1 dX11_placeOf_12 rfl (lv_at hl 0 rfl) ?_
        refine lv_iload_n S.1 S.2.1 dX11_placeOf_13 rfl (lv_at hl 2 rfl) ?_
        refine lv_iconst (v := (nI 0)) S.1 S.2.1 dX11_placeOf_14 (by decide) ?_
        refine mz_V S hG hM hS cf_10 k1 (As := [.int x2, .int (nI 0)]) (rest := []) (c_X11_of h) yf_X11_of tw_1622 tw_1624 ts_36 ⟨Nat.le_of_ble_eq_true rfl, Nat.le_of_ble_eq_true rfl⟩ ⟨(Nat.le_of_ble_eq_true rfl), (Nat.le_of_ble_eq_true rfl)⟩ rfl hl.1 rfl (Nat.le_of_ble_eq_true rfl) dX11_placeOf_15 (fun v9 μ9 H locs hp hM hS => ?_)
        obtain ⟨u7, rfl, e9, h⟩ := hp
        rw [e9] at hM
        refine W.cs (cells' := 0) (slots' := 0) rfl rfl ?_
        refine lv_iload_n S.1 S.2.1 dX11_placeOf_18 rfl (lv_at hl 1 rfl) ?_
        refine lv_icmp_ne (tgt := 24) S.1 S.2.1 dX11_placeOf_19 (by decide) (fun c8 => ?_) (fun c8 => ?_)
        · have h := h.1 c8
          refine lv_iinc (v := (x2 + nI 1)) (lv' := [(2, .int (x2 + nI 1)), (0, .ref o), (1, .int x1)]) S.1 S.2.1 dX11_placeOf_24 hl (k := 2) rfl rfl (by decide) rfl (fun ls hl => ?_)
          refine lv_goto (tgt := 2) S.1 S.2.1 dX11_placeOf_27 (by decide) ?_
          exact ih x1 (x2 + nI 1) H locs ls hM hS (lv_sub hl [1, 2, 0] rfl) h
        · have h := h.2 c8
          refine lv_iload_n S.1 S.2.1 dX11_placeOf_22 rfl (lv_at hl 2 rfl) ?_
          exact mz_iret S hr hlk hM hS rfl (Nat.le_of_ble_eq_true rfl) (Nat.le_of_ble_eq_true rfl) dX11_placeOf_23 ⟨_, rfl, rfl, h⟩
  intro H locs ls hM hS hl
  have hl : lv_has ls 3 [(0, .ref o), (1, .int x1)] := hl
  unfold w_X11_placeOf at h
  refine lv_iconst (v := (nI 0)) S.1 S.2.1 dX11_placeOf_0 (by decide) ?_
  refine lv_istore_n (lv' := [(2, .int (nI 0)), (0, .ref o), (1, .int x1)]) S.1 S.2.1 dX11_placeOf_1 rfl hl (by decide) rfl (fun ls hl => ?_)
  obtain ⟨n, h⟩ := h
  exact hB2  n x1 (nI 0) H locs ls hM hS (lv_sub hl [1, 2, 0] rfl) h
def w_X8_nestAt_b22 (G : mgT) (μ : mmT) (o : Nat) (Q : Option Nat → Prop) (s0 : Option Nat) : Prop :=
  (Q s0)
def w_X8_nestAt_b12 (G : mgT) (μ : mmT) (o : Nat) (Q : Option Nat → Prop) : Prop :=
  (w_X8_nestAt_b22 G μ o Q  none)
def w_X8_nestAt (G : mgT) (μ : mmT) (o : Nat) (x1 : Int32) (Q : Option Nat → Prop) : Prop :=
  ((x1 < 0 → (w_X8_nestAt_b12 G μ o Q  )) ∧ (¬ x1 < 0 → (mK μ o = 8 ∧ ((x1 < (mI μ 228 o) → (∃ a4, (mR μ 224 o) = some a4 ∧ (mK μ a4 = 40 ∧ (vp_in x1 (mN μ a4) ∧ (w_X8_nestAt_b22 G μ o Q  (mB μ a4 x1.toNatClampNeg)))))) ∧ (¬ x1 < (mI μ 228 o) → (w_X8_nestAt_b12 G μ o Q  ))))))
set_option maxRecDepth 100000 in
set_option maxHeartbeats 4000000 in
theorem c_X8_nestAt {l : Launch} {G : mgT} {μ : mmT} {o : Nat} {x1 : Int32} {Q : Option Nat → Prop} (h : w_X8_nestAt G μ o x1 Q) : MC G l yX8_nestAt cX8_nestAt 2 (some (.object "CrowMail$Nest")) { frames := 0, cells := 0, slots := 0, locals := 0 } [.ref o, .int x1] μ (pR (fun r μ' => μ' = μ ∧ Q r)) := by
  refine mz_MC (by decide +kernel) (Nat.le_of_ble_eq_true rfl) (fun p e s m args below meth c S hG hr hlk hnm => ?_)
  have hB22 : ∀ (s0 : Option Nat) (H : Heap) (locs : List Loc) (ls : Array Slot), Mm G μ H → va_S (Ah G) s.heap H locs → lv_has ls 2 [(0, .ref o)] → w_X8_nestAt_b22 G μ o Q  s0 → W p l e { frames := 0, cells := 0, slots := 0, locals := 0 } s m args below meth c H locs 0 0 (MQ below (mQ G (pR (fun r μ' => μ' = μ ∧ Q r))) args s 0 0 (Ah G)) (F0 m 22 ls [va_rf s0]) := by
    intro  s0 H locs ls hM hS hl h
    unfold w_X8_nestAt_b22 at h
    exact mz_aret (x := s0) S hr (by first | exact Or.inl ⟨_, rfl⟩ | exact Or.inr ⟨_, rfl⟩) hlk hM hS (Nat.le_of_ble_eq_true rfl) (Nat.le_of_ble_eq_true rfl) dX8_nestAt_22 ⟨_, rfl, rfl, h⟩
  have hB12 : ∀  (H : Heap) (locs : List Loc) (ls : Array Slot), Mm G μ H → va_S (Ah G) s.heap H locs → lv_has ls 2 [(0, .ref o)] → w_X8_nestAt_b12 G μ o Q   → W p l e { frames := 0, cells := 0, slots := 0, locals := 0 } s m args below meth c H locs 0 0 (MQ below (mQ G (pR (fun r μ' => μ' = μ ∧ Q r))) args s 0 0 (Ah G)) (F0 m 12 ls []) := by
    intro   H locs ls hM hS hl h
    unfold w_X8_nestAt_b12 at h
    refine lv_null S.1 S.2.1 dX8_nestAt_12 ?_
    refine lv_goto (tgt := 22) S.1 S.2.1 dX8_nestAt_13 (by decide) ?_
    exact hB22  none H locs ls hM hS (lv_sub hl [0] rfl) h
  intro H locs ls hM hS hl
  have hl : lv_has ls 2 [(0, .ref o), (1, .int x1)] := hl
  unfold w_X8_nestAt at h
  refine lv_iload_n S.1 S.2.1 dX8_nestAt_0 rfl (lv_at hl 1 rfl) ?_
  refine lv_if_lt (tgt := 12) S.1 S.2.1 dX8_nestAt_1 (by decide) (fun c1 => ?_) (fun c1 => ?_)
  · have h := h.1 c1
    exact hB12   H locs ls hM hS (lv_sub hl [0] rfl) h
  · have h := h.2 c1
    refine lv_iload_n S.1 S.2.1 dX8_nestAt_4 rfl (lv_at hl 1 rfl) ?_
    refine lv_aload_n S.1 S.2.1 dX8_nestAt_5 rfl (lv_at hl 0 rfl) ?_
    obtain ⟨k2, h⟩ := h
    refine mz_geti S hG hM cf_7 fd_228 tw_201 dX8_nestAt_6 k2 ?_
    refine lv_icmp_lt (tgt := 16) S.1 S.2.1 dX8_nestAt_9 (by decide) (fun c3 => ?_) (fun c3 => ?_)
    · have h := h.1 c3
      refine lv_aload_n S.1 S.2.1 dX8_nestAt_16 rfl (lv_at hl 0 rfl) ?_
      refine mz_getr S hG hM cf_7 fd_224 tw_194 dX8_nestAt_17 k2 ?_
      refine lv_iload_n S.1 S.2.1 dX8_nestAt_20 rfl (lv_at hl 1 rfl) ?_
      obtain ⟨a4, e5, h⟩ := h
      refine mz_o1 e5 ?_
      obtain ⟨k6, h⟩ := h
      obtain ⟨b7, h⟩ := h
      refine mz_aald (j := 8) S hG hM dX8_nestAt_21 (by decide) rfl k6 b7 ?_
      exact hB22  (mB μ a4 x1.toNatClampNeg) H locs ls hM hS (lv_sub hl [0] rfl) h
    · have h := h.2 c3
      exact hB12   H locs ls hM hS (lv_sub hl [0] rfl) h
def w_X6_takeFirst (G : mgT) (μ : mmT) (o : Nat) (Q : Int32 → mmT → Prop) : Prop :=
  (mK μ o = 6 ∧ ((0 < (mI μ 165 o) → (∃ a3, (mR μ 160 o) = some a3 ∧ (mK μ a3 = 34 ∧ (vp_in (nI 0) (mN μ a3) ∧ ((nI 1).toNatClampNeg + (nI 7).toNatClampNeg ≤ mN μ a3 ∧ ((nI 0).toNatClampNeg + (nI 7).toNatClampNeg ≤ mN μ a3 ∧ (Q (mA μ a3 (nI 0).toNatClampNeg) (sI (sC μ a3 (nI 1).toNatClampNeg a3 (nI 0).toNatClampNeg (nI 7).toNatClampNeg) 165 o ((mI (sC μ a3 (nI 1).toNatClampNeg a3 (nI 0).toNatClampNeg (nI 7).toNatClampNeg) 165 o) - (nI 1)))))))))) ∧ (¬ 0 < (mI μ 165 o) → (Q (-1) μ))))
set_option maxRecDepth 100000 in
set_option maxHeartbeats 4000000 in
theorem c_X6_takeFirst {l : Launch} {G : mgT} {μ : mmT} {o : Nat} {Q : Int32 → mmT → Prop} (h : w_X6_takeFirst G μ o Q) : MC G l yX6_takeFirst cX6_takeFirst 2 (some .int) { frames := 1, cells := 0, slots := 0, locals := 60 } [.ref o] μ (pI Q) := by
  refine mz_MC (by decide +kernel) (Nat.le_of_ble_eq_true rfl) (fun p e s m args below meth c S hG hr hlk hnm => ?_)
  intro H locs ls hM hS hl
  have hl : lv_has ls 2 [(0, .ref o)] := hl
  unfold w_X6_takeFirst at h
  refine lv_aload_n S.1 S.2.1 dX6_takeFirst_0 rfl (lv_at hl 0 rfl) ?_
  obtain ⟨k1, h⟩ := h
  refine mz_geti S hG hM cf_5 fd_165 tw_115 dX6_takeFirst_1 k1 ?_
  refine lv_if_gt (tgt := 9) S.1 S.2.1 dX6_takeFirst_4 (by decide) (fun c2 => ?_) (fun c2 => ?_)
  · have h := h.1 c2
    refine lv_aload_n S.1 S.2.1 dX6_takeFirst_9 rfl (lv_at hl 0 rfl) ?_
    refine mz_getr S hG hM cf_5 fd_160 tw_104 dX6_takeFirst_10 k1 ?_
    refine lv_iconst (v := (nI 0)) S.1 S.2.1 dX6_takeFirst_13 (by decide) ?_
    obtain ⟨a3, e4, h⟩ := h
    refine mz_o1 e4 ?_
    obtain ⟨k5, h⟩ := h
    obtain ⟨b6, h⟩ := h
    refine mz_iald S hG hM dX6_takeFirst_14 k5 b6 ?_
    refine lv_istore_n (lv' := [(1, .int (mA μ a3 (nI 0).toNatClampNeg)), (0, .ref o)]) S.1 S.2.1 dX6_takeFirst_15 rfl hl (by decide) rfl (fun ls hl => ?_)
    refine lv_aload_n S.1 S.2.1 dX6_takeFirst_16 rfl (lv_at hl 1 rfl) ?_
    refine mz_getr S hG hM cf_5 fd_160 tw_104 dX6_takeFirst_17 k1 ?_
    refine lv_iconst (v := (nI 1)) S.1 S.2.1 dX6_takeFirst_20 (by decide) ?_
    refine lv_aload_n S.1 S.2.1 dX6_takeFirst_21 rfl (lv_at hl 1 rfl) ?_
    refine mz_getr S hG hM cf_5 fd_160 tw_104 dX6_takeFirst_22 k1 ?_
    refine lv_iconst (v := (nI 0)) S.1 S.2.1 dX6_takeFirst_25 (by decide) ?_
    refine lv_bipush (v := (nI 7)) S.1 S.2.1 dX6_takeFirst_26 (by decide) ?_
    refine mz_o4 e4 ?_
    refine mz_o2 e4 ?_
    obtain ⟨b7, b8, h⟩ := h
    refine mz_copy S hG hM hS hl.1 tw_841 tw_519 tw_518 tw_17 k5 k5 (by decide) (by decide) (by decide) b7 b8 (Nat.le_of_ble_eq_true rfl) (Nat.le_of_ble_eq_true rfl) dX6_takeFirst_28 (fun H locs hM hS => ?_)
    refine lv_aload_n S.1 S.2.1 dX6_takeFirst_31 rfl (lv_at hl 1 rfl) ?_
    refine lv_dup S.1 S.2.1 dX6_takeFirst_32 rfl ?_
    refine mz_geti S hG hM cf_5 fd_165 tw_115 dX6_takeFirst_33 k1 ?_
    refine lv_iconst (v := (nI 1)) S.1 S.2.1 dX6_takeFirst_36 (by decide) ?_
    refine lv_isub S.1 S.2.1 dX6_takeFirst_37 ?_
    refine mz_puti S hG hM hS cf_5 fd_165 tw_115 dX6_takeFirst_38 k1 rfl rfl (fun H locs hM hS hz9 => ?_)
    refine lv_iload_n S.1 S.2.1 dX6_takeFirst_41 rfl (lv_at hl 0 rfl) ?_
    exact mz_iret S hr hlk hM hS rfl (Nat.le_of_ble_eq_true rfl) (Nat.le_of_ble_eq_true rfl) dX6_takeFirst_42 ⟨_, rfl, h⟩
  · have h := h.2 c2
    refine lv_iconst (v := (-1)) S.1 S.2.1 dX6_takeFirst_7 (by decide) ?_
    exact mz_iret S hr hlk hM hS rfl (Nat.le_of_ble_eq_true rfl) (Nat.le_of_ble_eq_true rfl) dX6_takeFirst_8 ⟨_, rfl, h⟩
def w_X11_nest (G : mgT) (μ : mmT) (o : Nat) (x1 : Int32) (x2 : Int32) (Q : Int32 → Prop) : Prop :=
  (mK μ o = 11 ∧ (∃ a2, (mR μ 321 o) = some a2 ∧ (mK μ a2 = 34 ∧ (vp_in (((nI 12) + ((nI 21) * x1)) + x2) (mN μ a2) ∧ (Q (mA μ a2 (((nI 12) + ((nI 21) * x1)) + x2).toNatClampNeg))))))
set_option maxRecDepth 100000 in
set_option maxHeartbeats 4000000 in
theorem c_X11_nest {l : Launch} {G : mgT} {μ : mmT} {o : Nat} {x1 : Int32} {x2 : Int32} {Q : Int32 → Prop} (h : w_X11_nest G μ o x1 x2 Q) : MC G l yX11_nest cX11_nest 3 (some .int) { frames := 0, cells := 0, slots := 0, locals := 0 } [.ref o, .int x1, .int x2] μ (pI (fun r μ' => μ' = μ ∧ Q r)) := by
  refine mz_MC (by decide +kernel) (Nat.le_of_ble_eq_true rfl) (fun p e s m args below meth c S hG hr hlk hnm => ?_)
  intro H locs ls hM hS hl
  have hl : lv_has ls 3 [(0, .ref o), (1, .int x1), (2, .int x2)] := hl
  unfold w_X11_nest at h
  refine lv_aload_n S.1 S.2.1 dX11_nest_0 rfl (lv_at hl 0 rfl) ?_
  obtain ⟨k1, h⟩ := h
  refine mz_getr S hG hM cf_10 fd_321 tw_1483 dX11_nest_1 k1 ?_
  refine lv_bipush (v := (nI 12)) S.1 S.2.1 dX11_nest_4 (by decide) ?_
  refine lv_bipush (v := (nI 21)) S.1 S.2.1 dX11_nest_6 (by decide) ?_
  refine lv_iload_n S.1 S.2.1 dX11_nest_8 rfl (lv_at hl 1 rfl) ?_
  refine lv_imul S.1 S.2.1 dX11_nest_9 ?_
  refine lv_iadd S.1 S.2.1 dX11_nest_10 ?_
  refine lv_iload_n S.1 S.2.1 dX11_nest_11 rfl (lv_at hl 2 rfl) ?_
  refine lv_iadd S.1 S.2.1 dX11_nest_12 ?_
  obtain ⟨a2, e3, h⟩ := h
  refine mz_o1 e3 ?_
  obtain ⟨k4, h⟩ := h
  obtain ⟨b5, h⟩ := h
  refine mz_iald S hG hM dX11_nest_13 k4 b5 ?_
  exact mz_iret S hr hlk hM hS rfl (Nat.le_of_ble_eq_true rfl) (Nat.le_of_ble_eq_true rfl) dX11_nest_14 ⟨_, rfl, rfl, h⟩
def w_X11_isAhead_b88 (G : mgT) (μ : mmT) (o : Nat) (Q : Int32 → Prop) (s0 : Int32) : Prop :=
  ((s0 = 0 ∨ s0 = 1) ∧ (Q s0))
def w_X11_isAhead_b39 (G : mgT) (μ : mmT) (o : Nat) (Q : Int32 → Prop) (s0 : Int32) : Prop :=
  ((s0 = 0 ∨ s0 = 1) ∧ (Q s0))
def w_X11_isAhead (G : mgT) (μ : mmT) (o : Nat) (x1 : Int32) (x2 : Int32) (Q : Int32 → Prop) : Prop :=
  (mK μ o = 11 ∧ (w_X11_nest G μ o x1 (nI 20) (fun u2 => (w_X11_nest G μ o x2 (nI 20) (fun u3 => ((u2 = u3 → (w_X11_nest G μ o x1 (nI 0) (fun u5 => (w_X11_nest G μ o x2 (nI 0) (fun u6 => ((¬ u5 = u6 → (w_X11_nest G μ o x1 (nI 0) (fun u8 => (w_X11_nest G μ o x2 (nI 0) (fun u9 => ((u9 ≤ u8 → (w_X11_isAhead_b88 G μ o Q  (nI 0))) ∧ (¬ u9 ≤ u8 → (w_X11_isAhead_b88 G μ o Q  (nI 1))))))))) ∧ (u5 = u6 → ((x2 ≤ x1 → (w_X11_isAhead_b88 G μ o Q  (nI 0))) ∧ (¬ x2 ≤ x1 → (w_X11_isAhead_b88 G μ o Q  (nI 1))))))))))) ∧ (¬ u2 = u3 → (w_X11_nest G μ o x1 (nI 20) (fun u13 => (w_X11_nest G μ o x2 (nI 20) (fun u14 => ((u13 ≤ u14 → (w_X11_isAhead_b39 G μ o Q  (nI 0))) ∧ (¬ u13 ≤ u14 → (w_X11_isAhead_b39 G μ o Q  (nI 1)))))))))))))))
set_option maxRecDepth 100000 in
set_option maxHeartbeats 4000000 in
theorem c_X11_isAhead {l : Launch} {G : mgT} {μ : mmT} {o : Nat} {x1 : Int32} {x2 : Int32} {Q : Int32 → Prop} (h : w_X11_isAhead G μ o x1 x2 Q) : MC G l yX11_isAhead cX11_isAhead 3 (some .boolean) { frames := 1, cells := 0, slots := 0, locals := 22 } [.ref o, .int x1, .int x2] μ (pI (fun r μ' => μ' = μ ∧ Q r)) := by
  refine mz_MC (by decide +kernel) (Nat.le_of_ble_eq_true rfl) (fun p e s m args below meth c S hG hr hlk hnm => ?_)
  have hB88 : ∀ (s0 : Int32) (H : Heap) (locs : List Loc) (ls : Array Slot), Mm G μ H → va_S (Ah G) s.heap H locs → lv_has ls 3 [(0, .ref o)] → w_X11_isAhead_b88 G μ o Q  s0 → W p l e { frames := 1, cells := 0, slots := 0, locals := 22 } s m args below meth c H locs 0 0 (MQ below (mQ G (pI (fun r μ' => μ' = μ ∧ Q r))) args s 0 0 (Ah G)) (F0 m 88 ls [.int s0]) := by
    intro  s0 H locs ls hM hS hl h
    unfold w_X11_isAhead_b88 at h
    obtain ⟨f11, h⟩ := h
    exact mz_iret S hr hlk hM hS (mz_nZ f11) (Nat.le_of_ble_eq_true rfl) (Nat.le_of_ble_eq_true rfl) dX11_isAhead_88 ⟨_, rfl, rfl, h⟩
  have hB39 : ∀ (s0 : Int32) (H : Heap) (locs : List Loc) (ls : Array Slot), Mm G μ H → va_S (Ah G) s.heap H locs → lv_has ls 3 [(0, .ref o)] → w_X11_isAhead_b39 G μ o Q  s0 → W p l e { frames := 1, cells := 0, slots := 0, locals := 22 } s m args below meth c H locs 0 0 (MQ below (mQ G (pI (fun r μ' => μ' = μ ∧ Q r))) args s 0 0 (Ah G)) (F0 m 39 ls [.int s0]) := by
    intro  s0 H locs ls hM hS hl h
    unfold w_X11_isAhead_b39 at h
    obtain ⟨f16, h⟩ := h
    exact mz_iret S hr hlk hM hS (mz_nZ f16) (Nat.le_of_ble_eq_true rfl) (Nat.le_of_ble_eq_true rfl) dX11_isAhead_39 ⟨_, rfl, rfl, h⟩
  intro H locs ls hM hS hl
  have hl : lv_has ls 3 [(0, .ref o), (1, .int x1), (2, .int x2)] := hl
  unfold w_X11_isAhead at h
  refine lv_aload_n S.1 S.2.1 dX11_isAhead_0 rfl (lv_at hl 0 rfl) ?_
  refine lv_iload_n S.1 S.2.1 dX11_isAhead_1 rfl (lv_at hl 1 rfl) ?_
  refine lv_bipush (v := (nI 20)) S.1 S.2.1 dX11_isAhead_2 (by decide) ?_
  obtain ⟨k1, h⟩ := h
  refine mz_V S hG hM hS cf_10 k1 (As := [.int x1, .int (nI 20)]) (rest := []) (c_X11_nest h) yf_X11_nest tw_1614 tw_1616 ts_34 ⟨Nat.le_of_ble_eq_true rfl, Nat.le_of_ble_eq_true rfl⟩ ⟨(Nat.le_of_ble_eq_true rfl), (Nat.le_of_ble_eq_true rfl)⟩ rfl hl.1 rfl (Nat.le_of_ble_eq_true rfl) dX11_isAhead_4 (fun v9 μ9 H locs hp hM hS => ?_)
  obtain ⟨u2, rfl, e9, h⟩ := hp
  rw [e9] at hM
  refine W.cs (cells' := 0) (slots' := 0) rfl rfl ?_
  refine lv_aload_n S.1 S.2.1 dX11_isAhead_7 rfl (lv_at hl 0 rfl) ?_
  refine lv_iload_n S.1 S.2.1 dX11_isAhead_8 rfl (lv_at hl 2 rfl) ?_
  refine lv_bipush (v := (nI 20)) S.1 S.2.1 dX11_isAhead_9 (by decide) ?_
  refine mz_V S hG hM hS cf_10 k1 (As := [.int x2, .int (nI 20)]) (rest := [.int u2]) (c_X11_nest h) yf_X11_nest tw_1614 tw_1616 ts_34 ⟨Nat.le_of_ble_eq_true rfl, Nat.le_of_ble_eq_true rfl⟩ ⟨(Nat.le_of_ble_eq_true rfl), (Nat.le_of_ble_eq_true rfl)⟩ rfl hl.1 rfl (Nat.le_of_ble_eq_true rfl) dX11_isAhead_11 (fun v9 μ9 H locs hp hM hS => ?_)
  obtain ⟨u3, rfl, e9, h⟩ := hp
  rw [e9] at hM
  refine W.cs (cells' := 0) (slots' := 0) rfl rfl ?_
  refine lv_icmp_eq (tgt := 40) S.1 S.2.1 dX11_isAhead_14 (by decide) (fun c4 => ?_) (fun c4 => ?_)
  · have h := h.1 c4
    refine lv_aload_n S.1 S.2.1 dX11_isAhead_40 rfl (lv_at hl 0 rfl) ?_
    refine lv_iload_n S.1 S.2.1 dX11_isAhead_41 rfl (lv_at hl 1 rfl) ?_
    refine lv_iconst (v := (nI 0)) S.1 S.2.1 dX11_isAhead_42 (by decide) ?_
    refine mz_V S hG hM hS cf_10 k1 (As := [.int x1, .int (nI 0)]) (rest := []) (c_X11_nest h) yf_X11_nest tw_1614 tw_1616 ts_34 ⟨Nat.le_of_ble_eq_true rfl, Nat.le_of_ble_eq_true rfl⟩ ⟨(Nat.le_of_ble_eq_true rfl), (Nat.le_of_ble_eq_true rfl)⟩ rfl hl.1 rfl (Nat.le_of_ble_eq_true rfl) dX11_isAhead_43 (fun v9 μ9 H locs hp hM hS => ?_)
    obtain ⟨u5, rfl, e9, h⟩ := hp
    rw [e9] at hM
    refine W.cs (cells' := 0) (slots' := 0) rfl rfl ?_
    refine lv_aload_n S.1 S.2.1 dX11_isAhead_46 rfl (lv_at hl 0 rfl) ?_
    refine lv_iload_n S.1 S.2.1 dX11_isAhead_47 rfl (lv_at hl 2 rfl) ?_
    refine lv_iconst (v := (nI 0)) S.1 S.2.1 dX11_isAhead_48 (by decide) ?_
    refine mz_V S hG hM hS cf_10 k1 (As := [.int x2, .int (nI 0)]) (rest := [.int u5]) (c_X11_nest h) yf_X11_nest tw_1614 tw_1616 ts_34 ⟨Nat.le_of_ble_eq_true rfl, Nat.le_of_ble_eq_true rfl⟩ ⟨(Nat.le_of_ble_eq_true rfl), (Nat.le_of_ble_eq_true rfl)⟩ rfl hl.1 rfl (Nat.le_of_ble_eq_true rfl) dX11_isAhead_49 (fun v9 μ9 H locs hp hM hS => ?_)
    obtain ⟨u6, rfl, e9, h⟩ := hp
    rw [e9] at hM
    refine W.cs (cells' := 0) (slots' := 0) rfl rfl ?_
    refine lv_icmp_ne (tgt := 68) S.1 S.2.1 dX11_isAhead_52 (by decide) (fun c7 => ?_) (fun c7 => ?_)
    · have h := h.1 c7
      refine lv_aload_n S.1 S.2.1 dX11_isAhead_68 rfl (lv_at hl 0 rfl) ?_
      refine lv_iload_n S.1 S.2.1 dX11_isAhead_69 rfl (lv_at hl 1 rfl) ?_
      refine lv_iconst (v := (nI 0)) S.1 S.2.1 dX11_isAhead_70 (by decide) ?_
      refine mz_V S hG hM hS cf_10 k1 (As := [.int x1, .int (nI 0)]) (rest := []) (c_X11_nest h) yf_X11_nest tw_1614 tw_1616 ts_34 ⟨Nat.le_of_ble_eq_true rfl, Nat.le_of_ble_eq_true rfl⟩ ⟨(Nat.le_of_ble_eq_true rfl), (Nat.le_of_ble_eq_true rfl)⟩ rfl hl.1 rfl (Nat.le_of_ble_eq_true rfl) dX11_isAhead_71 (fun v9 μ9 H locs hp hM hS => ?_)
      obtain ⟨u8, rfl, e9, h⟩ := hp
      rw [e9] at hM
      refine W.cs (cells' := 0) (slots' := 0) rfl rfl ?_
      refine lv_aload_n S.1 S.2.1 dX11_isAhead_74 rfl (lv_at hl 0 rfl) ?_
      refine lv_iload_n S.1 S.2.1 dX11_isAhead_75 rfl (lv_at hl 2 rfl) ?_
      refine lv_iconst (v := (nI 0)) S.1 S.2.1 dX11_isAhead_76 (by decide) ?_
      refine mz_V S hG hM hS cf_10 k1 (As := [.int x2, .int (nI 0)]) (rest := [.int u8]) (c_X11_nest h) yf_X11_nest tw_1614 tw_1616 ts_34 ⟨Nat.le_of_ble_eq_true rfl, Nat.le_of_ble_eq_true rfl⟩ ⟨(Nat.le_of_ble_eq_true rfl), (Nat.le_of_ble_eq_true rfl)⟩ rfl hl.1 rfl (Nat.le_of_ble_eq_true rfl) dX11_isAhead_77 (fun v9 μ9 H locs hp hM hS => ?_)
      obtain ⟨u9, rfl, e9, h⟩ := hp
      rw [e9] at hM
      refine W.cs (cells' := 0) (slots' := 0) rfl rfl ?_
      refine lv_icmp_ge (tgt := 87) S.1 S.2.1 dX11_isAhead_80 (by decide) (fun c10 => ?_) (fun c10 => ?_)
      · have h := h.1 c10
        refine lv_iconst (v := (nI 0)) S.1 S.2.1 dX11_isAhead_87 (by decide) ?_
        exact hB88  (nI 0) H locs ls hM hS (lv_sub hl [0] rfl) h
      · have h := h.2 c10
        refine lv_iconst (v := (nI 1)) S.1 S.2.1 dX11_isAhead_83 (by decide) ?_
        refine lv_goto (tgt := 88) S.1 S.2.1 dX11_isAhead_84 (by decide) ?_
        exact hB88  (nI 1) H locs ls hM hS (lv_sub hl [0] rfl) h
    · have h := h.2 c7
      refine lv_iload_n S.1 S.2.1 dX11_isAhead_55 rfl (lv_at hl 1 rfl) ?_
      refine lv_iload_n S.1 S.2.1 dX11_isAhead_56 rfl (lv_at hl 2 rfl) ?_
      refine lv_icmp_ge (tgt := 64) S.1 S.2.1 dX11_isAhead_57 (by decide) (fun c12 => ?_) (fun c12 => ?_)
      · have h := h.1 c12
        refine lv_iconst (v := (nI 0)) S.1 S.2.1 dX11_isAhead_64 (by decide) ?_
        refine lv_goto (tgt := 88) S.1 S.2.1 dX11_isAhead_65 (by decide) ?_
        exact hB88  (nI 0) H locs ls hM hS (lv_sub hl [0] rfl) h
      · have h := h.2 c12
        refine lv_iconst (v := (nI 1)) S.1 S.2.1 dX11_isAhead_60 (by decide) ?_
        refine lv_goto (tgt := 88) S.1 S.2.1 dX11_isAhead_61 (by decide) ?_
        exact hB88  (nI 1) H locs ls hM hS (lv_sub hl [0] rfl) h
  · have h := h.2 c4
    refine lv_aload_n S.1 S.2.1 dX11_isAhead_17 rfl (lv_at hl 0 rfl) ?_
    refine lv_iload_n S.1 S.2.1 dX11_isAhead_18 rfl (lv_at hl 1 rfl) ?_
    refine lv_bipush (v := (nI 20)) S.1 S.2.1 dX11_isAhead_19 (by decide) ?_
    refine mz_V S hG hM hS cf_10 k1 (As := [.int x1, .int (nI 20)]) (rest := []) (c_X11_nest h) yf_X11_nest tw_1614 tw_1616 ts_34 ⟨Nat.le_of_ble_eq_true rfl, Nat.le_of_ble_eq_true rfl⟩ ⟨(Nat.le_of_ble_eq_true rfl), (Nat.le_of_ble_eq_true rfl)⟩ rfl hl.1 rfl (Nat.le_of_ble_eq_true rfl) dX11_isAhead_21 (fun v9 μ9 H locs hp hM hS => ?_)
    obtain ⟨u13, rfl, e9, h⟩ := hp
    rw [e9] at hM
    refine W.cs (cells' := 0) (slots' := 0) rfl rfl ?_
    refine lv_aload_n S.1 S.2.1 dX11_isAhead_24 rfl (lv_at hl 0 rfl) ?_
    refine lv_iload_n S.1 S.2.1 dX11_isAhead_25 rfl (lv_at hl 2 rfl) ?_
    refine lv_bipush (v := (nI 20)) S.1 S.2.1 dX11_isAhead_26 (by decide) ?_
    refine mz_V S hG hM hS cf_10 k1 (As := [.int x2, .int (nI 20)]) (rest := [.int u13]) (c_X11_nest h) yf_X11_nest tw_1614 tw_1616 ts_34 ⟨Nat.le_of_ble_eq_true rfl, Nat.le_of_ble_eq_true rfl⟩ ⟨(Nat.le_of_ble_eq_true rfl), (Nat.le_of_ble_eq_true rfl)⟩ rfl hl.1 rfl (Nat.le_of_ble_eq_true rfl) dX11_isAhead_28 (fun v9 μ9 H locs hp hM hS => ?_)
    obtain ⟨u14, rfl, e9, h⟩ := hp
    rw [e9] at hM
    refine W.cs (cells' := 0) (slots' := 0) rfl rfl ?_
    refine lv_icmp_le (tgt := 38) S.1 S.2.1 dX11_isAhead_31 (by decide) (fun c15 => ?_) (fun c15 => ?_)
    · have h := h.1 c15
      refine lv_iconst (v := (nI 0)) S.1 S.2.1 dX11_isAhead_38 (by decide) ?_
      exact hB39  (nI 0) H locs ls hM hS (lv_sub hl [0] rfl) h
    · have h := h.2 c15
      refine lv_iconst (v := (nI 1)) S.1 S.2.1 dX11_isAhead_34 (by decide) ?_
      refine lv_goto (tgt := 39) S.1 S.2.1 dX11_isAhead_35 (by decide) ?_
      exact hB39  (nI 1) H locs ls hM hS (lv_sub hl [0] rfl) h
def w_X8_flightLength_b37 (G : mgT) (μ : mmT) (o : Nat) (Q : Int32 → Prop) (s0 : Int32) : Prop :=
  (Q s0)
def w_X8_flightLength_b21 (G : mgT) (μ : mmT) (o : Nat) (Q : Int32 → Prop) (s0 : Int32) : Prop :=
  (mK μ o = 8 ∧ (((mI μ 232 o) ≤ (nI 5) → (w_X8_flightLength_b37 G μ o Q  s0)) ∧ (¬ (mI μ 232 o) ≤ (nI 5) → (w_X8_flightLength_b37 G μ o Q  (s0 + (nI 1))))))
def w_X8_flightLength (G : mgT) (μ : mmT) (o : Nat) (r1 : Option Nat) (Q : Int32 → Prop) : Prop :=
  (∃ a1, r1 = some a1 ∧ (mK μ a1 = 5 ∧ (mK μ o = 8 ∧ (w_X8_nestAt G μ o (mI μ 129 a1) (fun ru5 => ((ru5 = none → (w_X8_flightLength_b21 G μ o Q  (nI 1))) ∧ (∀ a6, ru5 = some a6 → (mK μ a6 = 6 ∧ (w_X8_flightLength_b21 G μ o Q  (mI μ 162 a6))))))))))
set_option maxRecDepth 100000 in
set_option maxHeartbeats 4000000 in
theorem c_X8_flightLength {l : Launch} {G : mgT} {μ : mmT} {o : Nat} {r1 : Option Nat} {Q : Int32 → Prop} (h : w_X8_flightLength G μ o r1 Q) : MC G l yX8_flightLength cX8_flightLength 4 (some .int) { frames := 1, cells := 0, slots := 0, locals := 21 } [.ref o, va_rf r1] μ (pI (fun r μ' => μ' = μ ∧ Q r)) := by
  refine mz_MC (by decide +kernel) (by simp [lg_sl, mz_cat, mz_cr, mz_ci, mz_cl, mz_cf, mz_cd, mz_cn]) (fun p e s m args below meth c S hG hr hlk hnm => ?_)
  have hB37 : ∀ (s0 : Int32) (H : Heap) (locs : List Loc) (ls : Array Slot), Mm G μ H → va_S (Ah G) s.heap H locs → lv_has ls 4 [(0, .ref o)] → w_X8_flightLength_b37 G μ o Q  s0 → W p l e { frames := 1, cells := 0, slots := 0, locals := 21 } s m args below meth c H locs 0 0 (MQ below (mQ G (pI (fun r μ' => μ' = μ ∧ Q r))) args s 0 0 (Ah G)) (F0 m 37 ls [.int s0]) := by
    intro  s0 H locs ls hM hS hl h
    unfold w_X8_flightLength_b37 at h
    exact mz_iret S hr hlk hM hS rfl (Nat.le_of_ble_eq_true rfl) (Nat.le_of_ble_eq_true rfl) dX8_flightLength_37 ⟨_, rfl, rfl, h⟩
  have hB21 : ∀ (s0 : Int32) (H : Heap) (locs : List Loc) (ls : Array Slot), Mm G μ H → va_S (Ah G) s.heap H locs → lv_has ls 4 [(0, .ref o)] → w_X8_flightLength_b21 G μ o Q  s0 → W p l e { frames := 1, cells := 0, slots := 0, locals := 21 } s m args below meth c H locs 0 0 (MQ below (mQ G (pI (fun r μ' => μ' = μ ∧ Q r))) args s 0 0 (Ah G)) (F0 m 21 ls [.int s0]) := by
    intro  s0 H locs ls hM hS hl h
    unfold w_X8_flightLength_b21 at h
    refine lv_istore_n (lv' := [(3, .int s0), (0, .ref o)]) S.1 S.2.1 dX8_flightLength_21 rfl hl (by decide) rfl (fun ls hl => ?_)
    refine lv_aload_n S.1 S.2.1 dX8_flightLength_22 rfl (lv_at hl 1 rfl) ?_
    obtain ⟨k8, h⟩ := h
    refine mz_geti S hG hM cf_7 fd_232 tw_209 dX8_flightLength_23 k8 ?_
    refine lv_iconst (v := (nI 5)) S.1 S.2.1 dX8_flightLength_26 (by decide) ?_
    refine lv_icmp_le (tgt := 36) S.1 S.2.1 dX8_flightLength_27 (by decide) (fun c9 => ?_) (fun c9 => ?_)
    · have h := h.1 c9
      refine lv_iload_n S.1 S.2.1 dX8_flightLength_36 rfl (lv_at hl 0 rfl) ?_
      exact hB37  s0 H locs ls hM hS (lv_sub hl [1] rfl) h
    · have h := h.2 c9
      refine lv_iload_n S.1 S.2.1 dX8_flightLength_30 rfl (lv_at hl 0 rfl) ?_
      refine lv_iconst (v := (nI 1)) S.1 S.2.1 dX8_flightLength_31 (by decide) ?_
      refine lv_iadd S.1 S.2.1 dX8_flightLength_32 ?_
      refine lv_goto (tgt := 37) S.1 S.2.1 dX8_flightLength_33 (by decide) ?_
      exact hB37  (s0 + (nI 1)) H locs ls hM hS (lv_sub hl [1] rfl) h
  intro H locs ls hM hS hl
  have hl : lv_has ls 4 [(0, .ref o), (1, va_rf r1)] := by simpa [lv_args, mz_cat, mz_cr, mz_ci, mz_cl, mz_cf, mz_cd, mz_cn] using hl
  unfold w_X8_flightLength at h
  refine lv_aload_n S.1 S.2.1 dX8_flightLength_0 rfl (lv_at hl 0 rfl) ?_
  refine mz_aload_n (x := r1) S.1 S.2.1 dX8_flightLength_1 rfl (lv_at hl 1 rfl) ?_
  obtain ⟨a1, e2, h⟩ := h
  refine mz_o0 e2 ?_
  obtain ⟨k3, h⟩ := h
  refine mz_geti S hG hM cf_4 fd_129 tw_167 dX8_flightLength_2 k3 ?_
  obtain ⟨k4, h⟩ := h
  refine mz_V S hG hM hS cf_7 k4 (As := [.int (mI μ 129 a1)]) (rest := []) (c_X8_nestAt h) yf_X8_nestAt tw_953 tw_954 tw_955 ⟨Nat.le_of_ble_eq_true rfl, Nat.le_of_ble_eq_true rfl⟩ ⟨(Nat.le_of_ble_eq_true rfl), (Nat.le_of_ble_eq_true rfl)⟩ rfl hl.1 rfl (Nat.le_of_ble_eq_true rfl) dX8_flightLength_5 (fun v9 μ9 H locs hp hM hS => ?_)
  obtain ⟨ru5, rfl, e9, h⟩ := hp
  rw [e9] at hM
  refine W.cs (cells' := 0) (slots' := 0) rfl rfl ?_
  refine mz_astore_n (x := ru5) (lv' := [(2, va_rf ru5), (0, .ref o), (1, va_rf r1)]) S.1 S.2.1 dX8_flightLength_8 rfl hl (by decide) (by simp [List.filter, mz_cat]) (fun ls hl => ?_)
  refine mz_aload_n (x := ru5) S.1 S.2.1 dX8_flightLength_9 rfl (lv_at hl 0 rfl) ?_
  refine mz_ifnonnull (tgt := 17) S.1 S.2.1 dX8_flightLength_10 (by decide) (fun a6 e7 => ?_) (fun e7 => ?_)
  · have h := h.2 a6 e7
    refine mz_aload_n (x := ru5) S.1 S.2.1 dX8_flightLength_17 rfl (lv_at hl 0 rfl) ?_
    refine mz_o0 e7 ?_
    obtain ⟨k10, h⟩ := h
    refine mz_geti S hG hM cf_5 fd_162 tw_109 dX8_flightLength_18 k10 ?_
    exact hB21  (mI μ 162 a6) H locs ls hM hS (lv_sub hl [1] rfl) h
  · have h := h.1 e7
    refine lv_iconst (v := (nI 1)) S.1 S.2.1 dX8_flightLength_13 (by decide) ?_
    refine lv_goto (tgt := 21) S.1 S.2.1 dX8_flightLength_14 (by decide) ?_
    exact hB21  (nI 1) H locs ls hM hS (lv_sub hl [1] rfl) h

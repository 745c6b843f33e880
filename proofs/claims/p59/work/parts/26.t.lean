set_option maxRecDepth 100000 in
set_option maxHeartbeats 4000000 in
theorem cB_L_law_131 {p : Program} {l : Launch} {e : Env} {s : State} {m : MethodId} {args : Array Value} {below : List Frame} {meth : Method} {c : Code} {Z : State → Prop} {G : mgT} (hl0 : l.stackTraces = false) (S : CallFix p m c cL_law 22 s args TT RL) (hG : GK G s s.heap) (hgh : gh G = s.heap.size) (hend : ∀ (pc : Nat) (H : Heap) (ls : Array Slot), decode cL_law pc = .ok (.ireturn, 1) → W p l e room_1 s m args below meth c H [] 752906 6831448 Z (F0 m pc ls [.int 1])) : ∀ (K28 : Option Nat → Option Nat → Int32 → Int32 → Int32 → Nat → mmT → Prop) (kK28 : ∀ (r1 : Option Nat) (r2 : Option Nat) (x3 : Int32) (x4 : Int32) (x5 : Int32) (t28 : Nat) (μ : mmT) (H : Heap) (locs : List Loc) (ls : Array Slot), Mm G μ H → va_S (Ah G) s.heap H locs → lv_has ls 22 [(0, .ref (gX G 5)), (1, va_rf r1), (2, va_rf r2), (3, .int x3), (4, .int x4), (5, .int x5)] → K28 r1 r2 x3 x4 x5 t28 μ → W p l e room_1 s m args below meth c H locs (941 + 2960 * t28) (6049 + 17792 * t28) Z (F0 m 28 ls [])) (r1 : Option Nat) (r2 : Option Nat) (x3 : Int32) (x4 : Int32) (x5 : Int32) (x6 : Int64) (x8 : Int32) (x9 : Int32) (s0 : Int32) (t28 : Nat) (μ : mmT) (H : Heap) (locs : List Loc) (ls : Array Slot), Mm G μ H → va_S (Ah G) s.heap H locs → lv_has ls 22 [(0, .ref (gX G 5)), (1, va_rf r1), (2, va_rf r2), (3, .int x3), (4, .int x4), (5, .int x5), (6, .long x6), (8, .int x8), (9, .int x9)] → w_L_law_b131 G K28 r1 r2 x3 x4 x5 x6 x8 x9 s0 t28 μ → W p l e room_1 s m args below meth c H locs (1241 + 2960 * t28) (7849 + 17792 * t28) Z (F0 m 131 ls [.int s0]) := by
  intro K28 kK28 r1 r2 x3 x4 x5 x6 x8 x9 s0 t28 μ H locs ls hM hS hl h
  unfold w_L_law_b131 at h
  obtain ⟨ht28, h⟩ := h
  refine lv_istore (lv' := [(10, .int s0), (0, .ref (gX G 5)), (1, va_rf r1), (2, va_rf r2), (3, .int x3), (4, .int x4), (5, .int x5), (6, .long x6), (8, .int x8), (9, .int x9)]) S.1 S.2.1 dL_law_131 hl (by decide) rfl (fun ls hl => ?_)
  refine lv_aload_n S.1 S.2.1 dL_law_133 rfl (lv_at hl 1 rfl) ?_
  refine lv_iload S.1 S.2.1 dL_law_134 (lv_at hl 5 rfl) ?_
  refine lv_iconst (v := (nI 1)) S.1 S.2.1 dL_law_136 (by decide) ?_
  refine lv_iadd S.1 S.2.1 dL_law_137 ?_
  refine lv_bipush (v := (nI 8)) S.1 S.2.1 dL_law_138 (by decide) ?_
  refine mz_S S hG hM hS (As := [.ref (gX G 5), .int (x4 + (nI 1)), .int (nI 8)]) (rest := []) (c_L_pick h) yf_L_pick tw_398 tw_399 ⟨Nat.le_of_ble_eq_true rfl, Nat.le_of_ble_eq_true rfl⟩ ⟨(by show (1241 + 2960 * t28) + 0 ≤ 752906; omega), (by show (7849 + 17792 * t28) + 0 ≤ 6831448; omega)⟩ rfl hl.1 rfl (Nat.le_of_ble_eq_true rfl) dL_law_140 (fun v9 μ9 H locs hp hM hS => ?_)
  obtain ⟨u21, rfl, e9, h⟩ := hp
  rw [e9] at hM
  refine W.cs (cells' := 1241 + 2960 * t28) (slots' := 7849 + 17792 * t28) (by first | omega | (dsimp only; omega)) (by first | omega | (dsimp only; omega)) ?_
  refine lv_istore (lv' := [(11, .int u21), (10, .int s0), (0, .ref (gX G 5)), (1, va_rf r1), (2, va_rf r2), (3, .int x3), (4, .int x4), (5, .int x5), (6, .long x6), (8, .int x8), (9, .int x9)]) S.1 S.2.1 dL_law_143 hl (by decide) rfl (fun ls hl => ?_)
  refine mz_aload_n (x := r1) S.1 S.2.1 dL_law_145 rfl (lv_at hl 3 rfl) ?_
  refine lv_iload S.1 S.2.1 dL_law_146 (lv_at hl 1 rfl) ?_
  refine mz_SH S hG hM hS (As := [va_rf r1, .int s0]) (rest := []) (c_L_minutesUntilDelivered hl0 h) yh_L_minutesUntilDelivered tw_527 tw_528 ⟨Nat.le_of_ble_eq_true rfl, Nat.le_of_ble_eq_true rfl⟩ ⟨(by show (1241 + 2960 * t28) + 2 ≤ 752906; omega), (by show (7849 + 17792 * t28) + 12 ≤ 6831448; omega)⟩ rfl hl.1 rfl (Nat.le_of_ble_eq_true rfl) dL_law_148 (fun v9 μ23 H locs hp hM hS => ?_)
  obtain ⟨u22, rfl, h⟩ := hp
  refine W.cs (cells' := 1243 + 2960 * t28) (slots' := 7861 + 17792 * t28) (by first | omega | (dsimp only; omega)) (by first | omega | (dsimp only; omega)) ?_
  refine lv_istore (lv' := [(12, .int u22), (11, .int u21), (10, .int s0), (0, .ref (gX G 5)), (1, va_rf r1), (2, va_rf r2), (3, .int x3), (4, .int x4), (5, .int x5), (6, .long x6), (8, .int x8), (9, .int x9)]) S.1 S.2.1 dL_law_151 hl (by decide) rfl (fun ls hl => ?_)
  refine mz_aload_n (x := r1) S.1 S.2.1 dL_law_153 rfl (lv_at hl 4 rfl) ?_
  refine lv_iload S.1 S.2.1 dL_law_154 (lv_at hl 2 rfl) ?_
  refine mz_SH S hG hM hS (As := [va_rf r1, .int s0]) (rest := []) (c_L_status hl0 h) yh_L_status tw_483 tw_484 ⟨Nat.le_of_ble_eq_true rfl, Nat.le_of_ble_eq_true rfl⟩ ⟨(by show (1243 + 2960 * t28) + 1 ≤ 752906; omega), (by show (7861 + 17792 * t28) + 6 ≤ 6831448; omega)⟩ rfl hl.1 rfl (Nat.le_of_ble_eq_true rfl) dL_law_156 (fun v9 μ9 H locs hp hM hS => ?_)
  obtain ⟨u24, rfl, e9, h⟩ := hp
  rw [e9] at hM
  refine W.cs (cells' := 1244 + 2960 * t28) (slots' := 7867 + 17792 * t28) (by first | omega | (dsimp only; omega)) (by first | omega | (dsimp only; omega)) ?_
  refine lv_istore (lv' := [(13, .int u24), (12, .int u22), (11, .int u21), (10, .int s0), (0, .ref (gX G 5)), (1, va_rf r1), (2, va_rf r2), (3, .int x3), (4, .int x4), (5, .int x5), (6, .long x6), (8, .int x8), (9, .int x9)]) S.1 S.2.1 dL_law_159 hl (by decide) rfl (fun ls hl => ?_)
  refine mz_aload_n (x := r1) S.1 S.2.1 dL_law_161 rfl (lv_at hl 5 rfl) ?_
  refine lv_iload S.1 S.2.1 dL_law_162 (lv_at hl 3 rfl) ?_
  refine mz_SH S hG hM hS (As := [va_rf r1, .int s0]) (rest := []) (c_L_napMinutes hl0 h) yh_L_napMinutes tw_503 tw_504 ⟨Nat.le_of_ble_eq_true rfl, Nat.le_of_ble_eq_true rfl⟩ ⟨(by show (1244 + 2960 * t28) + 2 ≤ 752906; omega), (by show (7867 + 17792 * t28) + 12 ≤ 6831448; omega)⟩ rfl hl.1 rfl (Nat.le_of_ble_eq_true rfl) dL_law_164 (fun v9 μ9 H locs hp hM hS => ?_)
  obtain ⟨u25, rfl, e9, h⟩ := hp
  rw [e9] at hM
  refine W.cs (cells' := 1246 + 2960 * t28) (slots' := 7879 + 17792 * t28) (by first | omega | (dsimp only; omega)) (by first | omega | (dsimp only; omega)) ?_
  refine lv_istore (lv' := [(14, .int u25), (13, .int u24), (12, .int u22), (11, .int u21), (10, .int s0), (0, .ref (gX G 5)), (1, va_rf r1), (2, va_rf r2), (3, .int x3), (4, .int x4), (5, .int x5), (6, .long x6), (8, .int x8), (9, .int x9)]) S.1 S.2.1 dL_law_167 hl (by decide) rfl (fun ls hl => ?_)
  refine mz_aload_n (x := r1) S.1 S.2.1 dL_law_169 rfl (lv_at hl 6 rfl) ?_
  obtain ⟨a26, e27, h⟩ := h
  refine mz_o0 e27 ?_
  obtain ⟨k28, h⟩ := h
  refine mz_V S hG hM hS cf_9 k28 (As := []) (rest := []) (c_X10_deliveredTotal h) yf_X10_deliveredTotal tw_382 tw_383 tw_384 ⟨Nat.le_of_ble_eq_true rfl, Nat.le_of_ble_eq_true rfl⟩ ⟨(by show (1246 + 2960 * t28) + 0 ≤ 752906; omega), (by show (7879 + 17792 * t28) + 0 ≤ 6831448; omega)⟩ rfl hl.1 rfl (Nat.le_of_ble_eq_true rfl) dL_law_170 (fun v9 μ9 H locs hp hM hS => ?_)
  obtain ⟨u29, rfl, e9, h⟩ := hp
  rw [e9] at hM
  refine W.cs (cells' := 1246 + 2960 * t28) (slots' := 7879 + 17792 * t28) (by first | omega | (dsimp only; omega)) (by first | omega | (dsimp only; omega)) ?_
  refine lv_istore (lv' := [(15, .int u29), (14, .int u25), (13, .int u24), (12, .int u22), (11, .int u21), (10, .int s0), (0, .ref (gX G 5)), (1, va_rf r1), (2, va_rf r2), (3, .int x3), (4, .int x4), (5, .int x5), (6, .long x6), (8, .int x8), (9, .int x9)]) S.1 S.2.1 dL_law_173 hl (by decide) rfl (fun ls hl => ?_)
  refine mz_aload_n (x := r1) S.1 S.2.1 dL_law_175 rfl (lv_at hl 7 rfl) ?_
  refine mz_o0 e27 ?_
  refine mz_V S hG hM hS cf_9 k28 (As := []) (rest := []) (c_X10_time h) yf_X10_time tw_378 tw_379 tw_380 ⟨Nat.le_of_ble_eq_true rfl, Nat.le_of_ble_eq_true rfl⟩ ⟨(by show (1246 + 2960 * t28) + 0 ≤ 752906; omega), (by show (7879 + 17792 * t28) + 0 ≤ 6831448; omega)⟩ rfl hl.1 rfl (Nat.le_of_ble_eq_true rfl) dL_law_176 (fun v9 μ9 H locs hp hM hS => ?_)
  obtain ⟨u30, rfl, e9, h⟩ := hp
  rw [e9] at hM
  refine W.cs (cells' := 1246 + 2960 * t28) (slots' := 7879 + 17792 * t28) (by first | omega | (dsimp only; omega)) (by first | omega | (dsimp only; omega)) ?_
  refine lv_istore (lv' := [(16, .int u30), (15, .int u29), (14, .int u25), (13, .int u24), (12, .int u22), (11, .int u21), (10, .int s0), (0, .ref (gX G 5)), (1, va_rf r1), (2, va_rf r2), (3, .int x3), (4, .int x4), (5, .int x5), (6, .long x6), (8, .int x8), (9, .int x9)]) S.1 S.2.1 dL_law_179 hl (by decide) rfl (fun ls hl => ?_)
  refine mz_aload_n (x := r1) S.1 S.2.1 dL_law_181 rfl (lv_at hl 8 rfl) ?_
  refine mz_o0 e27 ?_
  refine mz_V S hG hM hS cf_9 k28 (As := []) (rest := []) (c_X10_arrivalTotal h) yf_X10_arrivalTotal tw_394 tw_395 tw_396 ⟨Nat.le_of_ble_eq_true rfl, Nat.le_of_ble_eq_true rfl⟩ ⟨(by show (1246 + 2960 * t28) + 0 ≤ 752906; omega), (by show (7879 + 17792 * t28) + 0 ≤ 6831448; omega)⟩ rfl hl.1 rfl (Nat.le_of_ble_eq_true rfl) dL_law_182 (fun v9 μ9 H locs hp hM hS => ?_)
  obtain ⟨u31, rfl, e9, h⟩ := hp
  rw [e9] at hM
  refine W.cs (cells' := 1246 + 2960 * t28) (slots' := 7879 + 17792 * t28) (by first | omega | (dsimp only; omega)) (by first | omega | (dsimp only; omega)) ?_
  refine lv_istore (lv' := [(17, .int u31), (16, .int u30), (15, .int u29), (14, .int u25), (13, .int u24), (12, .int u22), (11, .int u21), (10, .int s0), (0, .ref (gX G 5)), (1, va_rf r1), (2, va_rf r2), (3, .int x3), (4, .int x4), (5, .int x5), (6, .long x6), (8, .int x8), (9, .int x9)]) S.1 S.2.1 dL_law_185 hl (by decide) rfl (fun ls hl => ?_)
  refine mz_aload_n (x := r1) S.1 S.2.1 dL_law_187 rfl (lv_at hl 9 rfl) ?_
  refine mz_o0 e27 ?_
  refine mz_V S hG hM hS cf_9 k28 (As := []) (rest := []) (c_X10_duplicateTotal h) yf_X10_duplicateTotal tw_386 tw_387 tw_388 ⟨Nat.le_of_ble_eq_true rfl, Nat.le_of_ble_eq_true rfl⟩ ⟨(by show (1246 + 2960 * t28) + 0 ≤ 752906; omega), (by show (7879 + 17792 * t28) + 0 ≤ 6831448; omega)⟩ rfl hl.1 rfl (Nat.le_of_ble_eq_true rfl) dL_law_188 (fun v9 μ9 H locs hp hM hS => ?_)
  obtain ⟨u32, rfl, e9, h⟩ := hp
  rw [e9] at hM
  refine W.cs (cells' := 1246 + 2960 * t28) (slots' := 7879 + 17792 * t28) (by first | omega | (dsimp only; omega)) (by first | omega | (dsimp only; omega)) ?_
  refine mz_aload_n (x := r1) S.1 S.2.1 dL_law_191 rfl (lv_at hl 9 rfl) ?_
  refine mz_o0 e27 ?_
  refine mz_V S hG hM hS cf_9 k28 (As := []) (rest := [.int u32]) (c_X10_failedTotal h) yf_X10_failedTotal tw_390 tw_391 tw_392 ⟨Nat.le_of_ble_eq_true rfl, Nat.le_of_ble_eq_true rfl⟩ ⟨(by show (1246 + 2960 * t28) + 0 ≤ 752906; omega), (by show (7879 + 17792 * t28) + 0 ≤ 6831448; omega)⟩ rfl hl.1 rfl (Nat.le_of_ble_eq_true rfl) dL_law_192 (fun v9 μ9 H locs hp hM hS => ?_)
  obtain ⟨u33, rfl, e9, h⟩ := hp
  rw [e9] at hM
  refine W.cs (cells' := 1246 + 2960 * t28) (slots' := 7879 + 17792 * t28) (by first | omega | (dsimp only; omega)) (by first | omega | (dsimp only; omega)) ?_
  refine lv_iadd S.1 S.2.1 dL_law_195 ?_
  refine lv_istore (lv' := [(18, .int (u32 + u33)), (17, .int u31), (16, .int u30), (15, .int u29), (14, .int u25), (13, .int u24), (12, .int u22), (11, .int u21), (10, .int s0), (0, .ref (gX G 5)), (1, va_rf r1), (2, va_rf r2), (3, .int x3), (4, .int x4), (5, .int x5), (6, .long x6), (8, .int x8), (9, .int x9)]) S.1 S.2.1 dL_law_196 hl (by decide) rfl (fun ls hl => ?_)
  refine lv_aload_n S.1 S.2.1 dL_law_198 rfl (lv_at hl 9 rfl) ?_
  refine lv_iload S.1 S.2.1 dL_law_199 (lv_at hl 13 rfl) ?_
  refine lv_iload S.1 S.2.1 dL_law_201 (lv_at hl 16 rfl) ?_
  refine mz_aload_n (x := r1) S.1 S.2.1 dL_law_203 rfl (lv_at hl 10 rfl) ?_
  refine lv_iload S.1 S.2.1 dL_law_204 (lv_at hl 8 rfl) ?_
  refine lv_iload S.1 S.2.1 dL_law_206 (lv_at hl 7 rfl) ?_
  refine mz_S S hG hM hS (As := [.ref (gX G 5), .int x4, .int x8, va_rf r1, .int s0, .int u21]) (rest := []) (c_L_does hl0 h) yf_L_does tw_624 tw_625 ⟨Nat.le_of_ble_eq_true rfl, Nat.le_of_ble_eq_true rfl⟩ ⟨(by show (1246 + 2960 * t28) + 25 ≤ 752906; omega), (by show (7879 + 17792 * t28) + 182 ≤ 6831448; omega)⟩ rfl hl.1 rfl (Nat.le_of_ble_eq_true rfl) dL_law_208 (fun v9 μ35 H locs hp hM hS => ?_)
  obtain ⟨u34, rfl, h⟩ := hp
  refine W.cs (cells' := 1271 + 2960 * t28) (slots' := 8061 + 17792 * t28) (by first | omega | (dsimp only; omega)) (by first | omega | (dsimp only; omega)) ?_
  refine lv_istore (lv' := [(19, .int u34), (18, .int (u32 + u33)), (17, .int u31), (16, .int u30), (15, .int u29), (14, .int u25), (13, .int u24), (12, .int u22), (11, .int u21), (10, .int s0), (0, .ref (gX G 5)), (1, va_rf r1), (2, va_rf r2), (3, .int x3), (4, .int x4), (5, .int x5), (6, .long x6), (8, .int x8), (9, .int x9)]) S.1 S.2.1 dL_law_211 hl (by decide) rfl (fun ls hl => ?_)
  refine lv_iload S.1 S.2.1 dL_law_213 (lv_at hl 17 rfl) ?_
  refine lv_bipush (v := (nI 29)) S.1 S.2.1 dL_law_215 (by decide) ?_
  refine lv_icmp_le (tgt := 238) S.1 S.2.1 dL_law_217 (by decide) (fun c36 => ?_) (fun c36 => ?_)
  · have h := h.1 c36
    refine W.widen (k := 1271 + 2960 * t28) (n := 8061 + 17792 * t28) (by omega) (by omega) ?_
    exact cB_L_law_238 hl0 S hG hgh hend K28 kK28 r1 r2 x3 x4 x5 x6 x9 s0 u21 u22 u24 u25 u29 u30 u31 (u32 + u33) u34 t28 μ35 H locs ls hM hS (lv_sub hl [10, 11, 12, 13, 14, 15, 16, 18, 9, 8, 7, 6, 5, 4, 3, 2, 1, 0] rfl) h
  · have h := h.2 c36
    refine lv_iload S.1 S.2.1 dL_law_220 (lv_at hl 17 rfl) ?_
    refine lv_bipush (v := (nI 38)) S.1 S.2.1 dL_law_222 (by decide) ?_
    refine lv_icmp_ge (tgt := 238) S.1 S.2.1 dL_law_224 (by decide) (fun c91 => ?_) (fun c91 => ?_)
    · have h := h.1 c91
      refine W.widen (k := 1271 + 2960 * t28) (n := 8061 + 17792 * t28) (by omega) (by omega) ?_
      exact cB_L_law_238 hl0 S hG hgh hend K28 kK28 r1 r2 x3 x4 x5 x6 x9 s0 u21 u22 u24 u25 u29 u30 u31 (u32 + u33) u34 t28 μ35 H locs ls hM hS (lv_sub hl [10, 11, 12, 13, 14, 15, 16, 18, 9, 8, 7, 6, 5, 4, 3, 2, 1, 0] rfl) h
    · have h := h.2 c91
      refine lv_iload S.1 S.2.1 dL_law_227 (lv_at hl 0 rfl) ?_
      refine lv_bipush (v := (-70)) S.1 S.2.1 dL_law_229 (by decide) ?_
      refine lv_icmp_le (tgt := 238) S.1 S.2.1 dL_law_231 (by decide) (fun c92 => ?_) (fun c92 => ?_)
      · have h := h.1 c92
        refine W.widen (k := 1271 + 2960 * t28) (n := 8061 + 17792 * t28) (by omega) (by omega) ?_
        exact cB_L_law_238 hl0 S hG hgh hend K28 kK28 r1 r2 x3 x4 x5 x6 x9 s0 u21 u22 u24 u25 u29 u30 u31 (u32 + u33) u34 t28 μ35 H locs ls hM hS (lv_sub hl [10, 11, 12, 13, 14, 15, 16, 18, 9, 8, 7, 6, 5, 4, 3, 2, 1, 0] rfl) h
      · have h := h.2 c92
        refine lv_iconst (v := (nI 1)) S.1 S.2.1 dL_law_234 (by decide) ?_
        refine lv_goto (tgt := 239) S.1 S.2.1 dL_law_235 (by decide) ?_
        refine W.widen (k := 1271 + 2960 * t28) (n := 8061 + 17792 * t28) (by omega) (by omega) ?_
        exact cB_L_law_239 hl0 S hG hgh hend K28 kK28 r1 r2 x3 x4 x5 x6 x9 s0 u21 u22 u24 u25 u29 u30 u31 (u32 + u33) u34 (nI 1) t28 μ35 H locs ls hM hS (lv_sub hl [10, 11, 12, 13, 14, 15, 16, 18, 9, 8, 7, 6, 5, 4, 3, 2, 1, 0] rfl) h
set_option maxRecDepth 100000 in
set_option maxHeartbeats 4000000 in
theorem cB_L_law_104 {p : Program} {l : Launch} {e : Env} {s : State} {m : MethodId} {args : Array Value} {below : List Frame} {meth : Method} {c : Code} {Z : State → Prop} {G : mgT} (hl0 : l.stackTraces = false) (S : CallFix p m c cL_law 22 s args TT RL) (hG : GK G s s.heap) (hgh : gh G = s.heap.size) (hend : ∀ (pc : Nat) (H : Heap) (ls : Array Slot), decode cL_law pc = .ok (.ireturn, 1) → W p l e room_1 s m args below meth c H [] 752906 6831448 Z (F0 m pc ls [.int 1])) : ∀ (K28 : Option Nat → Option Nat → Int32 → Int32 → Int32 → Nat → mmT → Prop) (kK28 : ∀ (r1 : Option Nat) (r2 : Option Nat) (x3 : Int32) (x4 : Int32) (x5 : Int32) (t28 : Nat) (μ : mmT) (H : Heap) (locs : List Loc) (ls : Array Slot), Mm G μ H → va_S (Ah G) s.heap H locs → lv_has ls 22 [(0, .ref (gX G 5)), (1, va_rf r1), (2, va_rf r2), (3, .int x3), (4, .int x4), (5, .int x5)] → K28 r1 r2 x3 x4 x5 t28 μ → W p l e room_1 s m args below meth c H locs (941 + 2960 * t28) (6049 + 17792 * t28) Z (F0 m 28 ls [])) (r1 : Option Nat) (r2 : Option Nat) (x3 : Int32) (x4 : Int32) (x5 : Int32) (x6 : Int64) (x8 : Int32) (x9 : Int32) (t28 : Nat) (μ : mmT) (H : Heap) (locs : List Loc) (ls : Array Slot), Mm G μ H → va_S (Ah G) s.heap H locs → lv_has ls 22 [(0, .ref (gX G 5)), (1, va_rf r1), (2, va_rf r2), (3, .int x3), (4, .int x4), (5, .int x5), (6, .long x6), (8, .int x8), (9, .int x9)] → w_L_law_b104 G K28 r1 r2 x3 x4 x5 x6 x8 x9 t28 μ → W p l e room_1 s m args below meth c H locs (1240 + 2960 * t28) (7843 + 17792 * t28) Z (F0 m 104 ls []) := by
  intro K28 kK28 r1 r2 x3 x4 x5 x6 x8 x9 t28 μ H locs ls hM hS hl h
  unfold w_L_law_b104 at h
  obtain ⟨ht28, h⟩ := h
  refine lv_aload_n S.1 S.2.1 dL_law_104 rfl (lv_at hl 0 rfl) ?_
  refine lv_iload S.1 S.2.1 dL_law_105 (lv_at hl 4 rfl) ?_
  refine lv_iconst (v := (nI 2)) S.1 S.2.1 dL_law_107 (by decide) ?_
  refine lv_iadd S.1 S.2.1 dL_law_108 ?_
  refine lv_bipush (v := (nI 40)) S.1 S.2.1 dL_law_109 (by decide) ?_
  refine mz_S S hG hM hS (As := [.ref (gX G 5), .int (x4 + (nI 2)), .int (nI 40)]) (rest := []) (c_L_pick h) yf_L_pick tw_398 tw_399 ⟨Nat.le_of_ble_eq_true rfl, Nat.le_of_ble_eq_true rfl⟩ ⟨(by show (1240 + 2960 * t28) + 0 ≤ 752906; omega), (by show (7843 + 17792 * t28) + 0 ≤ 6831448; omega)⟩ rfl hl.1 rfl (Nat.le_of_ble_eq_true rfl) dL_law_111 (fun v9 μ9 H locs hp hM hS => ?_)
  obtain ⟨u20, rfl, e9, h⟩ := hp
  rw [e9] at hM
  refine W.cs (cells' := 1240 + 2960 * t28) (slots' := 7843 + 17792 * t28) (by first | omega | (dsimp only; omega)) (by first | omega | (dsimp only; omega)) ?_
  refine lv_goto (tgt := 131) S.1 S.2.1 dL_law_114 (by decide) ?_
  refine W.widen (k := 1241 + 2960 * t28) (n := 7849 + 17792 * t28) (by omega) (by omega) ?_
  exact cB_L_law_131 hl0 S hG hgh hend K28 kK28 r1 r2 x3 x4 x5 x6 x8 x9 u20 t28 μ H locs ls hM hS (lv_sub hl [0, 1, 2, 3, 4, 5, 6, 7, 8] rfl) h
set_option maxRecDepth 100000 in
set_option maxHeartbeats 4000000 in
theorem cB_L_law_81 {p : Program} {l : Launch} {e : Env} {s : State} {m : MethodId} {args : Array Value} {below : List Frame} {meth : Method} {c : Code} {Z : State → Prop} {G : mgT} (hl0 : l.stackTraces = false) (S : CallFix p m c cL_law 22 s args TT RL) (hG : GK G s s.heap) (hgh : gh G = s.heap.size) (hend : ∀ (pc : Nat) (H : Heap) (ls : Array Slot), decode cL_law pc = .ok (.ireturn, 1) → W p l e room_1 s m args below meth c H [] 752906 6831448 Z (F0 m pc ls [.int 1])) : ∀ (K28 : Option Nat → Option Nat → Int32 → Int32 → Int32 → Nat → mmT → Prop) (kK28 : ∀ (r1 : Option Nat) (r2 : Option Nat) (x3 : Int32) (x4 : Int32) (x5 : Int32) (t28 : Nat) (μ : mmT) (H : Heap) (locs : List Loc) (ls : Array Slot), Mm G μ H → va_S (Ah G) s.heap H locs → lv_has ls 22 [(0, .ref (gX G 5)), (1, va_rf r1), (2, va_rf r2), (3, .int x3), (4, .int x4), (5, .int x5)] → K28 r1 r2 x3 x4 x5 t28 μ → W p l e room_1 s m args below meth c H locs (941 + 2960 * t28) (6049 + 17792 * t28) Z (F0 m 28 ls [])) (r1 : Option Nat) (r2 : Option Nat) (x3 : Int32) (x4 : Int32) (x5 : Int32) (x6 : Int64) (s0 : Int32) (t28 : Nat) (μ : mmT) (H : Heap) (locs : List Loc) (ls : Array Slot), Mm G μ H → va_S (Ah G) s.heap H locs → lv_has ls 22 [(0, .ref (gX G 5)), (1, va_rf r1), (2, va_rf r2), (3, .int x3), (4, .int x4), (5, .int x5), (6, .long x6)] → w_L_law_b81 G K28 r1 r2 x3 x4 x5 x6 s0 t28 μ → W p l e room_1 s m args below meth c H locs (1240 + 2960 * t28) (7843 + 17792 * t28) Z (F0 m 81 ls [.int s0]) := by
  intro K28 kK28 r1 r2 x3 x4 x5 x6 s0 t28 μ H locs ls hM hS hl h
  unfold w_L_law_b81 at h
  obtain ⟨ht28, h⟩ := h
  refine lv_istore (lv' := [(8, .int s0), (0, .ref (gX G 5)), (1, va_rf r1), (2, va_rf r2), (3, .int x3), (4, .int x4), (5, .int x5), (6, .long x6)]) S.1 S.2.1 dL_law_81 hl (by decide) rfl (fun ls hl => ?_)
  refine mz_aload_n (x := r1) S.1 S.2.1 dL_law_83 rfl (lv_at hl 2 rfl) ?_
  obtain ⟨a15, e16, h⟩ := h
  refine mz_o0 e16 ?_
  obtain ⟨k17, h⟩ := h
  refine mz_V S hG hM hS cf_9 k17 (As := []) (rest := []) (c_X10_messageCount h) yf_X10_messageCount tw_374 tw_375 tw_376 ⟨Nat.le_of_ble_eq_true rfl, Nat.le_of_ble_eq_true rfl⟩ ⟨(by show (1240 + 2960 * t28) + 0 ≤ 752906; omega), (by show (7843 + 17792 * t28) + 0 ≤ 6831448; omega)⟩ rfl hl.1 rfl (Nat.le_of_ble_eq_true rfl) dL_law_84 (fun v9 μ9 H locs hp hM hS => ?_)
  obtain ⟨u18, rfl, e9, h⟩ := hp
  rw [e9] at hM
  refine W.cs (cells' := 1240 + 2960 * t28) (slots' := 7843 + 17792 * t28) (by first | omega | (dsimp only; omega)) (by first | omega | (dsimp only; omega)) ?_
  refine lv_istore (lv' := [(9, .int u18), (8, .int s0), (0, .ref (gX G 5)), (1, va_rf r1), (2, va_rf r2), (3, .int x3), (4, .int x4), (5, .int x5), (6, .long x6)]) S.1 S.2.1 dL_law_87 hl (by decide) rfl (fun ls hl => ?_)
  refine lv_iload S.1 S.2.1 dL_law_89 (lv_at hl 0 rfl) ?_
  refine lv_if_eq (tgt := 104) S.1 S.2.1 dL_law_91 (by decide) (fun c19 => ?_) (fun c19 => ?_)
  · have h := h.1 c19
    refine W.widen (k := 1240 + 2960 * t28) (n := 7843 + 17792 * t28) (by omega) (by omega) ?_
    exact cB_L_law_104 hl0 S hG hgh hend K28 kK28 r1 r2 x3 x4 x5 x6 s0 u18 t28 μ H locs ls hM hS (lv_sub hl [2, 3, 4, 5, 6, 7, 8, 1, 0] rfl) h
  · have h := h.2 c19
    refine lv_iload S.1 S.2.1 dL_law_94 (lv_at hl 7 rfl) ?_
    refine lv_bipush (v := (nI 13)) S.1 S.2.1 dL_law_96 (by decide) ?_
    refine lv_irem S.1 S.2.1 dL_law_98 (by decide) ?_
    refine lv_bipush (v := (nI 12)) S.1 S.2.1 dL_law_99 (by decide) ?_
    refine lv_icmp_ne (tgt := 117) S.1 S.2.1 dL_law_101 (by decide) (fun c94 => ?_) (fun c94 => ?_)
    · have h := h.1 c94
      refine mz_aload_n (x := r1) S.1 S.2.1 dL_law_117 rfl (lv_at hl 3 rfl) ?_
      refine lv_aload_n S.1 S.2.1 dL_law_118 rfl (lv_at hl 2 rfl) ?_
      refine lv_iload S.1 S.2.1 dL_law_119 (lv_at hl 6 rfl) ?_
      refine lv_iconst (v := (nI 2)) S.1 S.2.1 dL_law_121 (by decide) ?_
      refine lv_iadd S.1 S.2.1 dL_law_122 ?_
      refine lv_iload S.1 S.2.1 dL_law_123 (lv_at hl 0 rfl) ?_
      refine mz_S S hG hM hS (As := [.ref (gX G 5), .int (x4 + (nI 2)), .int u18]) (rest := [va_rf r1]) (c_L_pick h) yf_L_pick tw_398 tw_399 ⟨Nat.le_of_ble_eq_true rfl, Nat.le_of_ble_eq_true rfl⟩ ⟨(by show (1240 + 2960 * t28) + 0 ≤ 752906; omega), (by show (7843 + 17792 * t28) + 0 ≤ 6831448; omega)⟩ rfl hl.1 rfl (by simp [mz_cat, mz_cr, mz_ci, mz_cl, mz_cf, mz_cd, mz_cn]) dL_law_125 (fun v9 μ9 H locs hp hM hS => ?_)
      obtain ⟨u95, rfl, e9, h⟩ := hp
      rw [e9] at hM
      refine W.cs (cells' := 1240 + 2960 * t28) (slots' := 7843 + 17792 * t28) (by first | omega | (dsimp only; omega)) (by first | omega | (dsimp only; omega)) ?_
      refine mz_SH S hG hM hS (As := [va_rf r1, .int u95]) (rest := []) (c_L_messageAt hl0 h) yh_L_messageAt tw_405 tw_406 ⟨Nat.le_of_ble_eq_true rfl, Nat.le_of_ble_eq_true rfl⟩ ⟨(by show (1240 + 2960 * t28) + 1 ≤ 752906; omega), (by show (7843 + 17792 * t28) + 6 ≤ 6831448; omega)⟩ rfl hl.1 rfl (Nat.le_of_ble_eq_true rfl) dL_law_128 (fun v9 μ9 H locs hp hM hS => ?_)
      obtain ⟨u96, rfl, e9, h⟩ := hp
      rw [e9] at hM
      refine W.cs (cells' := 1241 + 2960 * t28) (slots' := 7849 + 17792 * t28) (by first | omega | (dsimp only; omega)) (by first | omega | (dsimp only; omega)) ?_
      refine W.widen (k := 1241 + 2960 * t28) (n := 7849 + 17792 * t28) (by omega) (by omega) ?_
      exact cB_L_law_131 hl0 S hG hgh hend K28 kK28 r1 r2 x3 x4 x5 x6 s0 u18 u96 t28 μ H locs ls hM hS (lv_sub hl [2, 3, 4, 5, 6, 7, 8, 1, 0] rfl) h
    · have h := h.2 c94
      refine W.widen (k := 1240 + 2960 * t28) (n := 7843 + 17792 * t28) (by omega) (by omega) ?_
      exact cB_L_law_104 hl0 S hG hgh hend K28 kK28 r1 r2 x3 x4 x5 x6 s0 u18 t28 μ H locs ls hM hS (lv_sub hl [2, 3, 4, 5, 6, 7, 8, 1, 0] rfl) h
set_option maxRecDepth 100000 in
set_option maxHeartbeats 4000000 in
theorem cB_L_law_28 {p : Program} {l : Launch} {e : Env} {s : State} {m : MethodId} {args : Array Value} {below : List Frame} {meth : Method} {c : Code} {Z : State → Prop} {G : mgT} (hl0 : l.stackTraces = false) (S : CallFix p m c cL_law 22 s args TT RL) (hG : GK G s s.heap) (hgh : gh G = s.heap.size) (hend : ∀ (pc : Nat) (H : Heap) (ls : Array Slot), decode cL_law pc = .ok (.ireturn, 1) → W p l e room_1 s m args below meth c H [] 752906 6831448 Z (F0 m pc ls [.int 1])) : ∀ (n : Nat) (r1 : Option Nat) (r2 : Option Nat) (x3 : Int32) (x4 : Int32) (x5 : Int32) (t28 : Nat) (μ : mmT) (H : Heap) (locs : List Loc) (ls : Array Slot), Mm G μ H → va_S (Ah G) s.heap H locs → lv_has ls 22 [(0, .ref (gX G 5)), (1, va_rf r1), (2, va_rf r2), (3, .int x3), (4, .int x4), (5, .int x5)] → w_L_law_l28 G  n r1 r2 x3 x4 x5 t28 μ → W p l e room_1 s m args below meth c H locs (941 + 2960 * t28) (6049 + 17792 * t28) Z (F0 m 28 ls []) := by
  intro  n
  induction n with
  | zero =>
    intro r1 r2 x3 x4 x5 t28 μ H locs ls hM hS hl h
    exact False.elim h
  | succ n ih =>
    intro r1 r2 x3 x4 x5 t28 μ H locs ls hM hS hl h
    have h : w_L_law_b28 G  (w_L_law_l28 G  n) r1 r2 x3 x4 x5 t28 μ := h
    unfold w_L_law_b28 at h
    obtain ⟨ht28, h⟩ := h
    refine lv_iload S.1 S.2.1 dL_law_28 (lv_at hl 5 rfl) ?_
    refine lv_bipush (v := (nI 60)) S.1 S.2.1 dL_law_30 (by decide) ?_
    refine lv_icmp_ge (tgt := 488) S.1 S.2.1 dL_law_32 (by decide) (fun c7 => ?_) (fun c7 => ?_)
    · have h := h.1 c7
      refine mz_aload_n (x := r1) S.1 S.2.1 dL_law_488 rfl (lv_at hl 1 rfl) ?_
      refine mz_aload_n (x := r2) S.1 S.2.1 dL_law_489 rfl (lv_at hl 2 rfl) ?_
      refine lv_iload_n S.1 S.2.1 dL_law_490 rfl (lv_at hl 3 rfl) ?_
      refine mz_S S hG hM hS (As := [va_rf r1, va_rf r2, .int x3]) (rest := []) (c_L_isKept hl0 h) yf_L_isKept tw_1400 tw_1401 ⟨Nat.le_of_ble_eq_true rfl, Nat.le_of_ble_eq_true rfl⟩ ⟨(by show (941 + 2960 * t28) + 2702 ≤ 752906; omega), (by show (6049 + 17792 * t28) + 16212 ≤ 6831448; omega)⟩ rfl hl.1 rfl (Nat.le_of_ble_eq_true rfl) dL_law_491 (fun v9 μ9 H locs hp hM hS => ?_)
      obtain ⟨u8, rfl, h⟩ := hp
      refine W.cs (cells' := 3643 + 2960 * t28) (slots' := 22261 + 17792 * t28) (by first | omega | (dsimp only; omega)) (by first | omega | (dsimp only; omega)) ?_
      rw [h]
      exact mz_lawret hgh hS hend (by show _ ≤ 752906; omega) (by show _ ≤ 6831448; omega) dL_law_494
    · have h := h.2 c7
      refine mz_aload_n (x := r1) S.1 S.2.1 dL_law_35 rfl (lv_at hl 1 rfl) ?_
      refine mz_S S hG hM hS (As := [va_rf r1]) (rest := []) (c_L_sum hl0 h) yf_L_sum tw_1104 tw_1105 ⟨Nat.le_of_ble_eq_true rfl, Nat.le_of_ble_eq_true rfl⟩ ⟨(by show (941 + 2960 * t28) + 299 ≤ 752906; omega), (by show (6049 + 17792 * t28) + 1794 ≤ 6831448; omega)⟩ rfl hl.1 rfl (Nat.le_of_ble_eq_true rfl) dL_law_36 (fun v9 μ9 H locs hp hM hS => ?_)
      obtain ⟨u10, rfl, e9, h⟩ := hp
      rw [e9] at hM
      refine W.cs (cells' := 1240 + 2960 * t28) (slots' := 7843 + 17792 * t28) (by first | omega | (dsimp only; omega)) (by first | omega | (dsimp only; omega)) ?_
      refine lv_lstore (lv' := [(6, .long u10), (0, .ref (gX G 5)), (1, va_rf r1), (2, va_rf r2), (3, .int x3), (4, .int x4), (5, .int x5)]) S.1 S.2.1 dL_law_39 hl (by decide) rfl (fun ls hl => ?_)
      refine lv_iload S.1 S.2.1 dL_law_41 (lv_at hl 6 rfl) ?_
      refine lv_iconst (v := (nI 2)) S.1 S.2.1 dL_law_43 (by decide) ?_
      refine lv_icmp_ge (tgt := 51) S.1 S.2.1 dL_law_44 (by decide) (fun c11 => ?_) (fun c11 => ?_)
      · have h := h.1 c11
        refine lv_iload S.1 S.2.1 dL_law_51 (lv_at hl 6 rfl) ?_
        refine lv_iconst (v := (nI 4)) S.1 S.2.1 dL_law_53 (by decide) ?_
        refine lv_icmp_ge (tgt := 61) S.1 S.2.1 dL_law_54 (by decide) (fun c12 => ?_) (fun c12 => ?_)
        · have h := h.1 c12
          refine lv_iload S.1 S.2.1 dL_law_61 (lv_at hl 6 rfl) ?_
          refine lv_bipush (v := (nI 10)) S.1 S.2.1 dL_law_63 (by decide) ?_
          refine lv_icmp_ge (tgt := 73) S.1 S.2.1 dL_law_65 (by decide) (fun c13 => ?_) (fun c13 => ?_)
          · have h := h.1 c13
            refine lv_aload_n S.1 S.2.1 dL_law_73 rfl (lv_at hl 1 rfl) ?_
            refine lv_iload S.1 S.2.1 dL_law_74 (lv_at hl 5 rfl) ?_
            refine lv_bipush (v := (nI 44)) S.1 S.2.1 dL_law_76 (by decide) ?_
            refine mz_S S hG hM hS (As := [.ref (gX G 5), .int x4, .int (nI 44)]) (rest := []) (c_L_pick h) yf_L_pick tw_398 tw_399 ⟨Nat.le_of_ble_eq_true rfl, Nat.le_of_ble_eq_true rfl⟩ ⟨(by show (1240 + 2960 * t28) + 0 ≤ 752906; omega), (by show (7843 + 17792 * t28) + 0 ≤ 6831448; omega)⟩ rfl hl.1 rfl (Nat.le_of_ble_eq_true rfl) dL_law_78 (fun v9 μ9 H locs hp hM hS => ?_)
            obtain ⟨u14, rfl, e9, h⟩ := hp
            rw [e9] at hM
            refine W.cs (cells' := 1240 + 2960 * t28) (slots' := 7843 + 17792 * t28) (by first | omega | (dsimp only; omega)) (by first | omega | (dsimp only; omega)) ?_
            refine W.widen (k := 1240 + 2960 * t28) (n := 7843 + 17792 * t28) (by omega) (by omega) ?_
            exact cB_L_law_81 hl0 S hG hgh hend (w_L_law_l28 G  n) ih r1 r2 x3 x4 x5 u10 u14 t28 μ H locs ls hM hS (lv_sub hl [1, 2, 3, 4, 5, 6, 0] rfl) h
          · have h := h.2 c13
            refine lv_bipush (v := (nI 8)) S.1 S.2.1 dL_law_68 (by decide) ?_
            refine lv_goto (tgt := 81) S.1 S.2.1 dL_law_70 (by decide) ?_
            refine W.widen (k := 1240 + 2960 * t28) (n := 7843 + 17792 * t28) (by omega) (by omega) ?_
            exact cB_L_law_81 hl0 S hG hgh hend (w_L_law_l28 G  n) ih r1 r2 x3 x4 x5 u10 (nI 8) t28 μ H locs ls hM hS (lv_sub hl [1, 2, 3, 4, 5, 6, 0] rfl) h
        · have h := h.2 c12
          refine lv_iconst (v := (nI 3)) S.1 S.2.1 dL_law_57 (by decide) ?_
          refine lv_goto (tgt := 81) S.1 S.2.1 dL_law_58 (by decide) ?_
          refine W.widen (k := 1240 + 2960 * t28) (n := 7843 + 17792 * t28) (by omega) (by omega) ?_
          exact cB_L_law_81 hl0 S hG hgh hend (w_L_law_l28 G  n) ih r1 r2 x3 x4 x5 u10 (nI 3) t28 μ H locs ls hM hS (lv_sub hl [1, 2, 3, 4, 5, 6, 0] rfl) h
      · have h := h.2 c11
        refine lv_iconst (v := (nI 0)) S.1 S.2.1 dL_law_47 (by decide) ?_
        refine lv_goto (tgt := 81) S.1 S.2.1 dL_law_48 (by decide) ?_
        refine W.widen (k := 1240 + 2960 * t28) (n := 7843 + 17792 * t28) (by omega) (by omega) ?_
        exact cB_L_law_81 hl0 S hG hgh hend (w_L_law_l28 G  n) ih r1 r2 x3 x4 x5 u10 (nI 0) t28 μ H locs ls hM hS (lv_sub hl [1, 2, 3, 4, 5, 6, 0] rfl) h
set_option maxRecDepth 100000 in
set_option maxHeartbeats 16000000 in
theorem c_L_law {p : Program} {l : Launch} {e : Env} {s : State} {m : MethodId} {args : Array Value} {below : List Frame} {meth : Method} {c : Code} {Z : State → Prop} {G : mgT} {μ : mmT} {z : Nat} (hl0 : l.stackTraces = false) (S : CallFix p m c cL_law 22 s args TT RL) (hG : GK G s s.heap) (hgh : gh G = s.heap.size) (hend : ∀ (pc : Nat) (H : Heap) (ls : Array Slot), decode cL_law pc = .ok (.ireturn, 1) → W p l e room_1 s m args below meth c H [] 752906 6831448 Z (F0 m pc ls [.int 1])) {H : Heap} {locs : List Loc} {ls : Array Slot} (hM : Mm G μ H) (hS : va_S (Ah G) s.heap H locs) (hg : gh G ≤ z) (hz : H.size = z) (hl : lv_has ls 22 [(0, .ref (gX G 5))]) (h : w_L_law G μ z) : W p l e room_1 s m args below meth c H locs 0 0 Z (F0 m 0 ls []) := by
  unfold w_L_law at h
  refine mz_new S hG hM hS hz hg cf_9 nv_9 tw_36 tw_37 tw_1 (Nat.le_of_ble_eq_true rfl) (Nat.le_of_ble_eq_true rfl) dL_law_0 (fun H hM hS hz => ?_)
  have hg := Nat.le_succ_of_le hg
  refine W.cs (cells' := 1) (slots' := 10) rfl rfl ?_
  refine lv_dup S.1 S.2.1 dL_law_3 rfl ?_
  obtain ⟨k1, h⟩ := h
  refine mz_I S hG hM hS hz hg (As := []) (rest := [.ref z]) (c_X10_init h) yf_X10_init rfl tw_38 tw_39 ⟨Nat.le_of_ble_eq_true rfl, Nat.le_of_ble_eq_true rfl⟩ ⟨(Nat.le_of_ble_eq_true rfl), (Nat.le_of_ble_eq_true rfl)⟩ rfl hl.1 rfl (Nat.le_of_ble_eq_true rfl) dL_law_4 (fun μ2 z3 H locs h hM hS hg hz => ?_)
  refine W.cs (cells' := 641) (slots' := 4175) rfl rfl ?_
  refine lv_astore_n (lv' := [(1, .ref z), (0, .ref (gX G 5))]) S.1 S.2.1 dL_law_7 rfl hl (by decide) rfl (fun ls hl => ?_)
  refine lv_bipush (v := (nI 80)) S.1 S.2.1 dL_law_8 (by decide) ?_
  refine mz_newa (j := 3) (atype := .long) S hG hM hS hz hg (by decide) rfl tw_1428 (N := 80) (nI_pos (Nat.le_of_ble_eq_true rfl)) (nI_clamp (Nat.le_of_ble_eq_true rfl)) (Nat.le_of_ble_eq_true rfl) (Nat.le_of_ble_eq_true rfl) (Nat.le_of_ble_eq_true rfl) dL_law_10 (fun H hM hS hz => ?_)
  have hg := Nat.le_succ_of_le hg
  refine W.cs (cells' := 642) (slots' := 4255) rfl rfl ?_
  refine lv_astore_n (lv' := [(2, .ref z3), (1, .ref z), (0, .ref (gX G 5))]) S.1 S.2.1 dL_law_12 rfl hl (by decide) rfl (fun ls hl => ?_)
  refine lv_iconst (v := (nI 0)) S.1 S.2.1 dL_law_13 (by decide) ?_
  refine lv_istore_n (lv' := [(3, .int (nI 0)), (2, .ref z3), (1, .ref z), (0, .ref (gX G 5))]) S.1 S.2.1 dL_law_14 rfl hl (by decide) rfl (fun ls hl => ?_)
  refine lv_aload_n S.1 S.2.1 dL_law_15 rfl (lv_at hl 1 rfl) ?_
  refine lv_iload_n S.1 S.2.1 dL_law_16 rfl (lv_at hl 0 rfl) ?_
  refine lv_aload_n S.1 S.2.1 dL_law_17 rfl (lv_at hl 2 rfl) ?_
  refine mz_S S hG hM hS (As := [.ref z]) (rest := [.int (nI 0), .ref z3]) (c_L_sum hl0 h) yf_L_sum tw_1104 tw_1105 ⟨Nat.le_of_ble_eq_true rfl, Nat.le_of_ble_eq_true rfl⟩ ⟨(Nat.le_of_ble_eq_true rfl), (Nat.le_of_ble_eq_true rfl)⟩ rfl hl.1 rfl (Nat.le_of_ble_eq_true rfl) dL_law_18 (fun v9 μ9 H locs hp hM hS => ?_)
  obtain ⟨u4, rfl, e9, h⟩ := hp
  rw [e9] at hM
  refine W.cs (cells' := 941) (slots' := 6049) rfl rfl ?_
  obtain ⟨k5, h⟩ := h
  obtain ⟨b6, h⟩ := h
  refine mz_last S hG hM hS dL_law_21 k5 b6 (fun H locs hM hS hz9 => ?_)
  refine lv_iconst (v := (nI 0)) S.1 S.2.1 dL_law_22 (by decide) ?_
  refine lv_istore (lv' := [(4, .int (nI 0)), (3, .int (nI 0)), (2, .ref z3), (1, .ref z), (0, .ref (gX G 5))]) S.1 S.2.1 dL_law_23 hl (by decide) rfl (fun ls hl => ?_)
  refine lv_iconst (v := (nI 0)) S.1 S.2.1 dL_law_25 (by decide) ?_
  refine lv_istore (lv' := [(5, .int (nI 0)), (4, .int (nI 0)), (3, .int (nI 0)), (2, .ref z3), (1, .ref z), (0, .ref (gX G 5))]) S.1 S.2.1 dL_law_26 hl (by decide) rfl (fun ls hl => ?_)
  obtain ⟨n9, h⟩ := h
  refine W.widen (k := 941 + 2960 * 0) (n := 6049 + 17792 * 0) (by omega) (by omega) ?_
  exact cB_L_law_28 hl0 S hG hgh hend  n9 (some z) (some z3) (nI 0) (nI 0) (nI 0) 0 (sL (nA μ2 z3 3 80) z3 (nI 0).toNatClampNeg u4) H locs ls hM hS (lv_sub hl [5, 4, 3, 2, 1, 0] rfl) h

section GIVEN2
variable {s : State} {args : Array Value} {A : Nat → Prop}
theorem zs_at {i : Nat} {w : Cond} (hs : ∀ w ∈ zs_fl, w.before args s = true) (h : zs_fl[i]? = some w) : w.before args s = true := hs w (List.mem_of_getElem? h)
theorem zt_at {i : Nat} {w : Cond} (hts : ∀ w ∈ lw_tbl, w.before args s = true) (h : tables_1[i]? = some w) : w.before args s = true := hts w (List.mem_append_right _ (List.mem_of_getElem? h))
theorem zs_texts (hs : ∀ w ∈ zs_fl, w.before args s = true) (hA : ∀ a : Nat, a < s.heap.size → ¬ A a) : ∃ aS aV : Nat → Nat, ∀ i, i < 37 → (zs_S i).eval args s none [] s = some (.ref (aS i)) ∧ va_O "java/lang/String" (aS i) A s s.heap ∧ va_OF "java/lang/String" "coder" "B" (.int 0) (aS i) A s s.heap ∧ va_OF "java/lang/String" "value" "[B" (.ref (aV i)) (aS i) A s s.heap ∧ va_T .byte (aV i) (gLen.getD i 0) (fun j => .int ((gByt.getD i []).getD j 0)) A s s.heap := by
  have h : ∀ i : Nat, ∃ q : Nat × Nat, i < 37 → (zs_S i).eval args s none [] s = some (.ref q.1) ∧ va_O "java/lang/String" q.1 A s s.heap ∧ va_OF "java/lang/String" "coder" "B" (.int 0) q.1 A s s.heap ∧ va_OF "java/lang/String" "value" "[B" (.ref q.2) q.1 A s s.heap ∧ va_T .byte q.2 (gLen.getD i 0) (fun j => .int ((gByt.getD i []).getD j 0)) A s s.heap := by
    intro i
    by_cases hi : i < 37
    · obtain ⟨f1, f2, f3, f4⟩ := zs_fs i hi
      obtain ⟨a, c, cA, kA, q1, q2, q3, q4, q5, q6, -⟩ := Cond.exactly_spec (args := args) (first := s) (o := none) (s := s) (idx := []) (t := zs_S i) (cls := "java/lang/String") (zs_at hs f1)
      obtain ⟨t, ht, hT⟩ := va_Tof (tm := zs_V i) (f := fun j => .int ((gByt.getD i []).getD j 0)) (A := A) (zs_len i hi) (zs_at hs f3) (va_eqt (zs_at hs f4)) (fun j hj => va_eqt (zs_at hs (zs_fb i hi j hj))) hA
      exact ⟨(a, t), fun _ => ⟨q1, va_Oof (zs_at hs f1) q1 hA, vk_OFof q1 (va_eqt (zs_at hs f2)) hA, vk_OFof q1 ht hA, hT⟩⟩
    · exact ⟨(0, 0), fun q => absurd q hi⟩
  obtain ⟨f, hf⟩ := Classical.axiomOfChoice h
  exact ⟨fun i => (f i).1, fun i => (f i).2, fun i hi => hf i hi⟩
theorem zs_enum (hts : ∀ w ∈ lw_tbl, w.before args s = true) (hs : ∀ w ∈ zs_fl, w.before args s = true) (hA : ∀ a : Nat, a < s.heap.size → ¬ A a) : ∃ aE : Nat → Nat, va_En "CrowMail$Form" "LCrowMail$Form;" gNm [("java/lang/Enum", "ordinal", "I", gOrd)] aE A s s.heap ∧ ∀ i, i < 9 → (zs_E i).eval args s none [] s = some (.ref (aE i)) := by
  have e : gNm.length = 9 := rfl
  obtain ⟨aE, h1, h2⟩ := va_Enof2 (args := args) (s := s) (E := "CrowMail$Form") (d := "LCrowMail$Form;") (nm := gNm) (F := [("java/lang/Enum", "ordinal", "I", gOrd)]) (A := A)
    (fun i hi => zt_at hts (zs_fl9 i (by rw [e] at hi; exact hi))) (hts _ (by decide +kernel)) (fun i hi => zs_at hs (zs_fe i (by rw [e] at hi; exact hi)).1)
    (fun q hq i hi => by
      have hq := List.mem_singleton.mp hq
      subst hq
      exact zs_at hs (zs_fe i (by rw [e] at hi; exact hi)).2.1)
    (fun i j hi hj ne => (zs_fd i (by rw [e] at hi; exact hi) j (by rw [e] at hj; exact hj) ne).imp (zs_at hs) (zs_at hs)) hA
  exact ⟨aE, h1, fun i hi => h2 i (by rw [e]; exact hi)⟩
theorem zs_sio (hts : ∀ w ∈ lw_tbl, w.before args s = true) (hs : ∀ w ∈ zs_fl, w.before args s = true) (hA : ∀ a : Nat, a < s.heap.size → ¬ A a) : ∃ x : Nat, va_Z "jdk/internal/util/Preconditions" "SIOOBE_FORMATTER" "Ljava/util/function/BiFunction;" (va_rf (if x = 0 then none else some (x - 1))) A s s.heap := by
  rcases va_Zqof (A := A) (hts (.laysStatic "jdk/internal/util/Preconditions" "SIOOBE_FORMATTER" "Ljava/util/function/BiFunction;") (by decide +kernel)) (hts (.initialized "jdk/internal/util/Preconditions") (by decide +kernel)) (zs_at hs zs_f4.2.1) hA with h | ⟨t, h⟩
  · exact ⟨0, h⟩
  · exact ⟨t + 1, h⟩
theorem zs_tab {tm : Term} {ty : FieldType} {N a b c0 : Nat} {f : Nat → Int32} (hN : N < 2 ^ 31) (hs : ∀ w ∈ zs_fl, w.before args s = true) (h : zs_fl[a]? = some (Cond.arrayOf tm ty) ∧ zs_fl[b]? = some (Cond.eq (.length tm) (.int (Int32.ofNat N))) ∧ ∀ j, j < N → zs_fl[c0 + j]? = some (Cond.eq (.elem tm (.int (Int32.ofNat j))) (.int (f j)))) (hA : ∀ a : Nat, a < s.heap.size → ¬ A a) : ∃ t : Nat, tm.eval args s none [] s = some (.ref t) ∧ va_T ty t N (fun j => .int (f j)) A s s.heap :=
  va_Tof hN (zs_at hs h.1) (va_eqt (zs_at hs h.2.1)) (fun j hj => va_eqt (zs_at hs (h.2.2 j hj))) hA
theorem zs_nc (hs : ∀ w ∈ zs_fl, w.before args s = true) : ∀ q ∈ gNc, (Cond.not (.castable q.1 q.2)).before args s = true := fun q hq => by
  obtain ⟨i, hi, e⟩ := List.mem_iff_getElem.mp hq
  have h := zs_at hs (zs_fn i (by have : gNc.length = 20 := rfl; omega))
  have e2 : gNc.getD i ("", "") = q := by rw [List.getD_eq_getElem?_getD, List.getElem?_eq_getElem hi, e]; rfl
  rw [e2] at h
  exact h
/-- ALL THAT THE START GIVES -/
theorem k_GK {b L : Nat} {xs : Nat → Int32} (hX : va_X b L xs s s.heap) (hbl : b < s.heap.size) (hts : ∀ w ∈ lw_tbl, w.before args s = true) (hs : ∀ w ∈ zs_fl, w.before args s = true) : ∃ G : mgT, gh G = s.heap.size ∧ gX G 5 = b ∧ gX G 6 = L ∧ GK G s s.heap := by
  have hT : va_T .int b L (fun i => .int (xs i)) (fun q : Nat => s.heap.size ≤ q) s s.heap := by
    obtain ⟨scr, hcb, hof, hkn, hsz, hval⟩ := hX
    exact ⟨scr, hcb, hof, hkn, Nat.le_of_eq hsz.symm, by rw [hsz], hval, Nat.not_le.mpr hbl⟩
  obtain ⟨D, f, hK⟩ := k_K hts
  have hA : ∀ a : Nat, a < s.heap.size → ¬ (fun q : Nat => s.heap.size ≤ q) a := fun a h q => absurd h (Nat.not_lt.mpr q)
  obtain ⟨aS, aV, hS⟩ := zs_texts hs hA
  obtain ⟨aE, hE, hev⟩ := zs_enum hts hs hA
  obtain ⟨t0, e0, T0⟩ := va_Tof (tm := zs_F) (ty := .object "CrowMail$Form") (N := 9) (f := fun i => .ref (aE i)) (by decide) (zs_at hs zs_f0.1) (va_eqt (zs_at hs zs_f0.2.1)) (fun j hj => va_eqv (zs_at hs (zs_f0.2.2 j hj)) (hev j hj)) hA
  obtain ⟨t1, e1, T1⟩ := zs_tab (by decide) hs zs_f1 hA
  obtain ⟨t2, e2, T2⟩ := zs_tab (by decide) hs zs_f2 hA
  obtain ⟨t3, e3, T3⟩ := zs_tab (by decide) hs zs_f3 hA
  obtain ⟨x4, h4⟩ := zs_sio hts hs hA
  have hEf : va_Ef 9 "CrowMail$Form" "pattern" "Ljava/lang/String;" (fun i => .ref (aS (gPat i))) aE (fun q : Nat => s.heap.size ≤ q) s s.heap := va_Efof (d0 := "LCrowMail$Form;") (nm := gNm) (tm := fun i => zs_S (gPat i)) hev (fun i hi => zs_at hs (zs_fe i hi).2.2) (fun i hi => (hS (gPat i) (zs_fp i hi)).1) hA
  have hR : ∀ j q, gStr[j]? = some q → vk_R q.1 q.2.1 q.2.2 (aS j) s := fun j q hq => by
    have hj : j < 37 := (List.getElem?_eq_some_iff.mp hq).1
    have e : gStr.getD j ("", 0, "") = q := by rw [List.getD_eq_getElem?_getD, hq]; rfl
    have h1 := zt_at hts (zs_fr j hj)
    have h2 := (hS j hj).1
    unfold zs_S at h2
    rw [e] at h1 h2
    exact vk_R.of h1 h2
  have Z0 : va_Z "CrowMail" "FORMS" "[LCrowMail$Form;" (.ref t0) (fun q : Nat => s.heap.size ≤ q) s s.heap := va_Zref (hts _ (by decide +kernel)) (hts _ (by decide +kernel)) e0 hA
  have Z1 : va_Z "CrowMail$1" "$SwitchMap$CrowMail$Form" "[I" (.ref t1) (fun q : Nat => s.heap.size ≤ q) s s.heap := va_Zref (hts _ (by decide +kernel)) (hts _ (by decide +kernel)) e1 hA
  have Z2 : va_Z "java/lang/Integer" "DigitOnes" "[B" (.ref t2) (fun q : Nat => s.heap.size ≤ q) s s.heap := va_Zref (hts _ (by decide +kernel)) (hts _ (by decide +kernel)) e2 hA
  have Z3 : va_Z "java/lang/Integer" "DigitTens" "[B" (.ref t3) (fun q : Nat => s.heap.size ≤ q) s s.heap := va_Zref (hts _ (by decide +kernel)) (hts _ (by decide +kernel)) e3 hA
  have Zc : va_Z "java/lang/String" "COMPACT_STRINGS" "Z" (.int 1) (fun q : Nat => s.heap.size ≤ q) s s.heap := va_Zof (hts _ (by decide +kernel)) (hts _ (by decide +kernel)) (va_eqi (zs_at hs zs_f4.1)) hA
  have Zu : vx_Zq Bundle.tN "UNASSIGNED_STACK" Bundle.steD (fun q : Nat => s.heap.size ≤ q) s s.heap := vx_Zqof (C := "java/lang/Throwable") (d := "[Ljava/lang/StackTraceElement;") (hts _ (by decide +kernel)) (hts _ (by decide +kernel)) (zs_at hs zs_f4.2.2.1) hA
  have Zs : vx_Zq Bundle.tN "SUPPRESSED_SENTINEL" Bundle.listD (fun q : Nat => s.heap.size ≤ q) s s.heap := vx_Zqof (C := "java/lang/Throwable") (d := "Ljava/util/List;") (hts _ (by decide +kernel)) (hts _ (by decide +kernel)) (zs_at hs zs_f4.2.2.2) hA
  refine ⟨(D, f, s.heap.size, aS, aV, aE, (fun i => match i with | 0 => t0 | 1 => t1 | 2 => t2 | 3 => t3 | 4 => x4 | 5 => b | _ => L), xs), rfl, rfl, rfl, ?_⟩
  exact ⟨hK _ rfl rfl, k_ot hts, k_ao hts, k_nc hts (zs_nc hs), ⟨Zu, Zs⟩, hR, fun i hi => (hS i hi).2, ⟨hE, hEf⟩, ⟨Z0, T0⟩, ⟨Z1, T1⟩, Zc, ⟨Z2, T2⟩, ⟨Z3, T3⟩, h4, hT, Nat.le_refl _⟩
end GIVEN2

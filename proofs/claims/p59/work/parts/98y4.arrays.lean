/-! THE START: the array classes -/
section ARRS
variable {s : State} {args : Array Value} {ty : FieldType} {C : String}
theorem ar_prim (h : (Cond.arrayClass ty).before args s = true) : ∃ cA, ArrOfT s cA ty ∧ s.vm.findClass ("[" ++ ty.toString) = some cA := by
  obtain ⟨cB, kB, comp, hname, hk, hkind⟩ := Cond.arrayClass_spec h
  exact ⟨cB, fun n z => ⟨fun k h => (by cases h), kB, hk, comp, hkind⟩, hname⟩
theorem ar_obj (h : (Cond.arrayOver (.object C)).before args s = true) : ∃ cA, ArrOfT s cA (.object C) ∧ va_RA s cA (.object C) := by
  obtain ⟨comp, cA, kA, hcomp, -, hk, hkind, hname⟩ := Cond.arrayOver_spec h
  exact ⟨cA, fun n z => ⟨fun k h => (by cases h), kA, hk, comp, hkind⟩, kA, comp, hk, hkind, hcomp, hname⟩
theorem ar_all (hts : ∀ w ∈ lw_tbl, w.before args s = true) : ∃ f : Nat → ClassId, ∀ j, j < 10 → ArrOfT s (f j) (mmTy j) ∧ va_RA s (f j) (mmTy j) := by
  have h : ∀ j : Nat, ∃ cA : ClassId, j < 10 → ArrOfT s cA (mmTy j) ∧ va_RA s cA (mmTy j) := by
    intro j
    match j with
    | 0 => exact (ar_prim (hts (.arrayClass .byte) (by decide +kernel))).imp fun _ q _ => q
    | 1 => exact (ar_prim (hts (.arrayClass .char) (by decide +kernel))).imp fun _ q _ => q
    | 2 => exact (ar_prim (hts (.arrayClass .int) (by decide +kernel))).imp fun _ q _ => q
    | 3 => exact (ar_prim (hts (.arrayClass .long) (by decide +kernel))).imp fun _ q _ => q
    | 4 => exact (ar_prim (hts (.arrayClass .long) (by decide +kernel))).imp fun _ q _ => q
    | 5 => exact (ar_obj (hts (.arrayOver (.object RX1)) (by decide +kernel))).imp fun _ q _ => q
    | 6 => exact (ar_obj (hts (.arrayOver (.object RX2)) (by decide +kernel))).imp fun _ q _ => q
    | 7 => exact (ar_obj (hts (.arrayOver (.object RX5)) (by decide +kernel))).imp fun _ q _ => q
    | 8 => exact (ar_obj (hts (.arrayOver (.object RX6)) (by decide +kernel))).imp fun _ q _ => q
    | 9 => exact (ar_obj (hts (.arrayOver (.object RX8)) (by decide +kernel))).imp fun _ q _ => q
    | j + 10 => exact ⟨0, fun q => by omega⟩
  obtain ⟨f, hf⟩ := Classical.axiomOfChoice h
  exact ⟨f, hf⟩
end ARRS

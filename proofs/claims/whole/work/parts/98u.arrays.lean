/-! THE START: the array classes -/
section ARRS
variable {s : State} {args : Array Value} {ty : FieldType} {C : String}
theorem ar_prim (h : (Cond.arrayClass ty).before args s = true) : ∃ cA, ArrOfT s cA ty ∧ s.vm.findClass ("[" ++ ty.toString) = some cA := by
  obtain ⟨cB, kB, comp, hname, hk, hkind⟩ := Cond.arrayClass_spec h
  exact ⟨cB, fun n z => ⟨fun k h => (by cases h), kB, hk, comp, hkind⟩, hname⟩
end ARRS

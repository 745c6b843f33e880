/-! THE LAW FROM THE START -/
section FX
variable {G : mgT} {μ : mmT} {H : Heap}
theorem arrV_cg {c : ClassId} {n : Nat} {f g : Nat → Value} (h : ∀ i, i < n → f i = g i) : arrV c n f = arrV c n g := by
  have e : (fun i : Fin n => f i.val) = (fun i : Fin n => g i.val) := funext fun i => h i.1 i.2
  unfold arrV
  rw [e]
end FX

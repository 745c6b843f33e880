/-! THE MODEL'S OTHER ARRAYS -/
def AT (μ : mmT) (b : Nat) (g : Nat → Int32) : mmT := (mK μ, mN μ, mI μ, mR μ, fun c i => if c = b then g i else mA μ c i, mB μ, mL μ, mD μ)
section FRAME
variable {G : mgT} {μ : mmT} {m b c i : Nat} {v : Nat → Nat} {g g2 : Nat → Int32}
theorem AT_A : mA (AT μ b g) b i = g i := if_pos rfl
theorem AT_Ao (h : c ≠ b) : mA (AT μ b g) c i = mA μ c i := if_neg h
theorem AT_sA {y : Int32} : sA (AT μ b g) b i y = AT μ b (fun j => if j = i then y else g j) := by
  refine mm_ext rfl rfl rfl rfl ?_ rfl rfl rfl
  funext c j
  show (if c = b ∧ j = i then y else if c = b then g j else mA μ c j) = if c = b then (if j = i then y else g j) else mA μ c j
  by_cases hc : c = b
  · by_cases hj : j = i
    · rw [if_pos ⟨hc, hj⟩, if_pos hc, if_pos hj]
    · rw [if_neg (fun z => hj z.2), if_pos hc, if_pos hc, if_neg hj]
  · rw [if_neg (fun z => hc z.1), if_neg hc, if_neg hc]
theorem AT_self : AT μ b (mA μ b) = μ := by
  refine mm_ext rfl rfl rfl rfl ?_ rfl rfl rfl
  funext c j
  show (if c = b then mA μ b j else mA μ c j) = mA μ c j
  by_cases hc : c = b
  · rw [if_pos hc, hc]
  · rw [if_neg hc]
theorem AT_c (h : ∀ j, g j = g2 j) : AT μ b g = AT μ b g2 := by rw [funext h]
end FRAME

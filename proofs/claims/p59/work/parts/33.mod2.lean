theorem VT_c {μ : mmT} {m : Nat} {v w : Nat → Nat} (h : ∀ j, v j = w j) : VT μ m v = VT μ m w := by rw [funext h]
section MOD2
variable {G : mgT} {μ : mmT} {m : Nat} {v : Nat → Nat} {b : Nat}
end MOD2

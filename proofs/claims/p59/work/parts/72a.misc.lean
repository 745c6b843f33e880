/-! SMALL LAWS THAT STAND BETWEEN OTHER THINGS IN whole's TEXTS -/
section MISC
variable {G : mgT} {μ ν ρ : mmT} {z a b c m i F n k : Nat} {S S2 : cT} {v w : Nat → Nat}
theorem AT_I {g : Nat → Int32} : mI (AT μ b g) F c = mI μ F c := rfl
theorem sI_A {x : Int32} : mA (sI μ F c x) b i = mA μ b i := rfl
theorem sL_e {x : Int64} : mL (sL μ b i x) b i = x := if_pos ⟨rfl, rfl⟩
theorem lg_self {u : Int64} : lg_cmp u u = 0 := by
  unfold lg_cmp
  rw [if_neg (fun h : u > u => Int64.lt_irrefl h), if_pos rfl]
theorem qx {α : Type} {W10 : mgT → mmT → Nat → (α → Prop) → (String → Prop) → Prop} {A : (α → Prop) → (String → Prop) → Prop} (h10 : ∀ G μ z S Q X, ST μ z → Rel S v 4 16 → A Q X → W10 G (CT μ (z + 1) S) z Q X) (hT : ST μ z) (hs : St μ (z + 1) v) {Q : α → Prop} {X : String → Prop} (h : A Q X) : W10 G μ z Q X := by
  obtain ⟨S, e1, r1⟩ := hs
  have := h10 G μ z S Q X hT r1 h
  rw [BT_self e1] at this
  exact this
/-! WHAT ELSE HOLDS OF THE ROW AT REST: naps and attempts, flights, totals, keys -/
def EN (v : Nat → Nat) : Prop := ∀ p, p < v 2 → (v (146 + 7 * p + 4) = 110 → 1 ≤ v (146 + 7 * p + 3) ∧ v (146 + 7 * p + 5) ≤ 2 ^ v (146 + 7 * p + 3)) ∧ (v (146 + 7 * p + 4) = 100 → 1 ≤ v (146 + 7 * p + 3))
def EF (v : Nat → Nat) : Prop := ∀ c p, c < v 1 → p < v 2 → v (138 + 2 * c) = v (146 + 7 * p) + 1 → v (138 + 2 * c + 1) ≤ v (12 + 21 * v (146 + 7 * p + 1)) + 1
def ET (v : Nat → Nat) : Prop := v 6 + v 8 + v 9 ≤ v 10 ∧ v 6 = v 7 + cS v 100
def EK (v : Nat → Nat) : Prop := ∀ n, n < v 0 → (∀ k, k < v (12 + 21 * n + 11) → v (12 + 21 * n + 12 + k) ≤ 99) ∧ ∀ j k, j < k → k < v (12 + 21 * n + 11) → v (12 + 21 * n + 12 + j) ≠ v (12 + 21 * n + 12 + k)
def EE (v : Nat → Nat) : Prop := EN v ∧ EF v ∧ ET v ∧ EK v
end MISC

theorem itr_I {f : Nat → (Nat → Nat) → Nat → Nat} {I : Nat → (Nat → Nat) → Prop} {N : Nat} (hI : ∀ i w, I i w → i < N → I (i + 1) (f i w)) : ∀ d i v, I i v → i + d = N → I N (itr f d i v) := by
  intro d
  induction d with
  | zero =>
    intro i v hv e
    have e : i = N := by omega
    rw [← e]
    exact hv
  | succ d ih =>
    intro i v hv e
    exact ih (i + 1) (f i v) (hI i v hv (by omega)) (by omega)
theorem nlt_of {a b : Nat} (ha : a < 2 ^ 31) (h : ¬ nI b ≤ nI a) : a < b := by
  by_cases q : a < b
  · exact q
  · exact absurd (nI_le (by omega) ha) h
section MOD5
variable {G : mgT} {μ : mmT} {m : Nat} {v : Nat → Nat} {b : Nat}
end MOD5

/-! THE REFERENCE'S OWN METHODS, over VT -/
theorem cl {n : Nat} (h : n < 2 ^ 31) : (nI n).toNatClampNeg = n := nI_clamp h
theorem ix_of (p j : Nat) : nI 146 + nI 7 * nI p + nI j = nI (146 + 7 * p + j) := by rw [pk_mul, nI_add, nI_add]
theorem ix_nest (p j : Nat) : nI 12 + nI 21 * nI p + nI j = nI (12 + 21 * p + j) := by rw [pk_mul, nI_add, nI_add]
section MOD1
variable {G : mgT} {μ : mmT} {m : Nat} {v : Nat → Nat} {b : Nat}
/-- below a number: 0 <= x <= n - 1 -/
theorem lt_of_in {x : Int32} {n : Nat} (hn : n < 2 ^ 30) (h1 : nI 0 ≤ x) (h2 : x ≤ nI n - nI 1) : ∃ k, k < n ∧ x = nI k := by
  rcases pk_ix x (n := n) (by omega) with q | q | q
  · exact absurd q (Int32.not_lt.mpr h1)
  · exfalso
    have a := Int32.le_iff_toInt_le.mp q
    have c := Int32.le_iff_toInt_le.mp h2
    rw [nI_toInt (by omega)] at a
    rw [pk_sub_toInt hn (by omega)] at c
    omega
  · exact q
theorem in_of_lt {n k : Nat} (hn : n < 2 ^ 30) (hk : k < n) : nI 0 ≤ nI k ∧ nI k ≤ nI n - nI 1 := by
  refine ⟨nI_le (by omega) (by omega), ?_⟩
  apply Int32.le_iff_toInt_le.mpr
  rw [nI_toInt (by omega), pk_sub_toInt hn (by omega)]
  omega
end MOD1

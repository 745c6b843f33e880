theorem fArrP_eq (v : Nat → Nat) (p : Nat) : fArrP v p = (if fLost (fArr1 v p) p (v (146 + 7 * p + 3) + 1) = false ∧ fKnows (fArr1 v p) (v (146 + 7 * p + 1)) (fArr1 v p (146 + 7 * p + 2)) = true then fCeases (up (fArr1 v p) 8 (fArr1 v p 8 + 1)) p
  else if fLost (fArr1 v p) p (v (146 + 7 * p + 3) + 1) = false ∧ fArr1 v p (12 + 21 * v (146 + 7 * p + 1) + 2) < 8 then fDeliv (fArr1 v p) p (v (146 + 7 * p + 1))
  else if v (146 + 7 * p + 3) + 1 = 5 then fCeases (up (fArr1 v p) 9 (fArr1 v p 9 + 1)) p
  else fNap (fArr1 v p) p (v (146 + 7 * p + 3) + 1)) := rfl
theorem shl1 : ∀ t, t < 6 → nI 1 <<< (nI t &&& 31) = nI (2 ^ t) := by decide
theorem ne10 : ¬ (1 : Int32) = 0 := by decide
section MOD3
variable {G : mgT} {μ : mmT} {m : Nat} {v : Nat → Nat} {b : Nat}
end MOD3

section MOD4
variable {G : mgT} {μ : mmT} {m : Nat} {v : Nat → Nat} {b : Nat}
theorem cnt_le (p : Nat → Bool) : ∀ n, cnt p n ≤ n
  | 0 => Nat.le_refl _
  | n + 1 => by
    have := cnt_le p n
    unfold cnt
    split <;> omega
theorem fPl_congr {w : Nat → Nat} {x : Int32} (h2 : w 2 = v 2) (h : ∀ k, 146 ≤ k → w k = v k) : fPl w x = fPl v x := by
  unfold fPl
  rw [h2]
  congr 1
  funext p
  rw [h _ (by omega)]
/-- what an arrival asks -/
def PreArr (b : Nat) (v : Nat → Nat) (id : Nat) : Prop := v 2 ≤ 16 ∧ fPl v (nI id) < v 2 ∧ v (146 + 7 * fPl v (nI id) + 1) < 6 ∧ v (146 + 7 * fPl v (nI id) + 3) ≤ 4 ∧ v (12 + 21 * v (146 + 7 * fPl v (nI id) + 1) + 11) ≤ 8 ∧ Bd b v ∧ b < 2 ^ 27 ∧ id ≤ b
def PreLand (b c : Nat) (v : Nat → Nat) : Prop := v 1 ≤ 4 ∧ Bd b v ∧ b < 2 ^ 27 ∧ (v (138 + 2 * c) ≠ 0 → 1 ≤ v (138 + 2 * c + 1) ∧ (v (138 + 2 * c + 1) = 1 → PreArr b (up (up v (138 + 2 * c + 1) (v (138 + 2 * c + 1) - 1)) (138 + 2 * c) 0) (v (138 + 2 * c) - 1)))
end MOD4

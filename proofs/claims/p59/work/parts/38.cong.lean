/-! WHAT AN UPDATE LEAVES ALONE -/
section CONG
variable {S S' : cT} {v w : Nat → Nat} {jc jm : Nat}
theorem RelS_c (h : RelS S v) (hv : ∀ j, j < 6 → j ≠ 3 → w j = v j) (hf : ∀ F, 228 ≤ F → F ≤ 232 → cF S' F 0 = cF S F 0) : RelS S' w := by
  obtain ⟨h0, h1, h2, h3, h4⟩ := h
  refine ⟨?_, ?_, ?_, ?_, ?_⟩
  · rw [hf 228 (by decide) (by decide), hv 0 (by decide) (by decide)]; exact h0
  · rw [hf 229 (by decide) (by decide), hv 1 (by decide) (by decide)]; exact h1
  · rw [hf 230 (by decide) (by decide), hv 2 (by decide) (by decide)]; exact h2
  · rw [hf 231 (by decide) (by decide), hv 4 (by decide) (by decide)]; exact h3
  · rw [hf 232 (by decide) (by decide), hv 5 (by decide) (by decide)]; exact h4
theorem RelT_c (h : RelT S v) (hv : ∀ j, j < 12 → j = 3 ∨ 6 ≤ j → w j = v j) (hf : ∀ F, 256 ≤ F → F ≤ 262 → cF S' F 4 = cF S F 4) : RelT S' w := by
  obtain ⟨h0, h1, h2, h3, h4, h5, h6⟩ := h
  refine ⟨?_, ?_, ?_, ?_, ?_, ?_, ?_⟩
  · rw [hf 256 (by decide) (by decide), hv 3 (by decide) (by decide)]; exact h0
  · rw [hf 257 (by decide) (by decide), hv 6 (by decide) (by decide)]; exact h1
  · rw [hf 258 (by decide) (by decide), hv 7 (by decide) (by decide)]; exact h2
  · rw [hf 259 (by decide) (by decide), hv 8 (by decide) (by decide)]; exact h3
  · rw [hf 260 (by decide) (by decide), hv 9 (by decide) (by decide)]; exact h4
  · rw [hf 261 (by decide) (by decide), hv 11 (by decide) (by decide)]; exact h5
  · rw [hf 262 (by decide) (by decide), hv 10 (by decide) (by decide)]; exact h6
/-- the rows' sizes -/
def Lim (v : Nat → Nat) : Prop := (v 0 ≤ 6 ∧ v 1 ≤ 4 ∧ v 2 ≤ 16) ∧ (∀ n, n < v 0 → v (12 + 21 * n + 2) ≤ 8 ∧ v (12 + 21 * n + 11) ≤ 8 ∧ 1 ≤ v (12 + 21 * n) ∧ v (12 + 21 * n) ≤ 9 ∧ v (12 + 21 * n + 1) ≤ 4) ∧ (∀ p, p < v 2 → v (146 + 7 * p + 1) < v 0)
theorem RelN_c (h : RelN S v) (l : Lim v) (h0 : w 0 = v 0) (hv : ∀ j, 12 ≤ j → j < 138 → w j = v j) (hf : ∀ F k, 162 ≤ F → F ≤ 166 → cF S' F k = cF S F k) (hA : cA S' = cA S) : RelN S' w := by
  intro n hn
  rw [h0] at hn
  have l0 := l.1.1
  obtain ⟨a, b, c⟩ := h n hn
  obtain ⟨l1, l2, -⟩ := l.2.1 n hn
  rw [hv (12 + 21 * n) (by omega) (by omega), hv (12 + 21 * n + 1) (by omega) (by omega), hv (12 + 21 * n + 20) (by omega) (by omega), hv (12 + 21 * n + 2) (by omega) (by omega), hv (12 + 21 * n + 11) (by omega) (by omega), hf 162 _ (by decide) (by decide), hf 163 _ (by decide) (by decide), hf 164 _ (by decide) (by decide), hf 165 _ (by decide) (by decide), hf 166 _ (by decide) (by decide), hA]
  refine ⟨a, fun k hk => ?_, fun k hk => ?_⟩
  · rw [hv (12 + 21 * n + 3 + k) (by omega) (by omega)]
    exact b k hk
  · rw [hv (12 + 21 * n + 12 + k) (by omega) (by omega)]
    exact c k hk
theorem RelC_c (h : RelC S v jc) (l1 : v 1 ≤ 4) (h1 : w 1 = v 1) (h4 : w 4 = v 4) (hv : ∀ j, 138 ≤ j → j < 146 → w j = v j) (hf : ∀ F k, 64 ≤ F → F ≤ 66 → cF S' F k = cF S F k) : RelC S' w jc := by
  intro c hc
  rw [h1] at hc
  rw [hv (138 + 2 * c) (by omega) (by omega), hv (138 + 2 * c + 1) (by omega) (by omega), h4, hf 64 _ (by decide) (by decide), hf 65 _ (by decide) (by decide), hf 66 _ (by decide) (by decide)]
  exact h c hc
theorem RelM_c (h : RelM S v jm) (l2 : v 2 ≤ 16) (h2 : w 2 = v 2) (h4 : w 4 = v 4) (hv : ∀ j, 146 ≤ j → w j = v j) (hP : cP S' = cP S) (hf : ∀ F k, 128 ≤ F → F ≤ 133 → cF S' F k = cF S F k) : RelM S' w jm := by
  intro p hp
  rw [h2] at hp
  rw [hv (146 + 7 * p) (by omega), hv (146 + 7 * p + 1) (by omega), hv (146 + 7 * p + 2) (by omega), hv (146 + 7 * p + 3) (by omega), hv (146 + 7 * p + 4) (by omega), hv (146 + 7 * p + 5) (by omega), hv (146 + 7 * p + 6) (by omega), h4, hP, hf 128 _ (by decide) (by decide), hf 129 _ (by decide) (by decide), hf 130 _ (by decide) (by decide), hf 131 _ (by decide) (by decide), hf 132 _ (by decide) (by decide), hf 133 _ (by decide) (by decide)]
  exact h p hp
theorem RelP_c (h : RelP S) (hP : cP S' = cP S) : RelP S' := by
  unfold RelP
  rw [hP]
  exact h
theorem RelZ_c (h : RelZ S) (h1 : ∀ k, cF S' 132 k = cF S 132 k) (h2 : ∀ k, cF S' 64 k = cF S 64 k) : RelZ S' := ⟨fun k hk => by rw [h1]; exact h.1 k hk, fun c hc => by rw [h2]; exact h.2 c hc⟩
theorem fI_o {F k G j : Nat} {y : Int32} (h : G ≠ F ∨ j ≠ k) : cF (fI S F k y) G j = cF S G j := if_neg (fun z => h.elim (fun q => q z.1) (fun q => q z.2))
theorem fI_s {F k : Nat} {y : Int32} : cF (fI S F k y) F k = y := if_pos ⟨rfl, rfl⟩
theorem isCh_n {n : Nat} (h : n < 65536) : isCh (nI n) := ⟨n, h, rfl⟩
end CONG

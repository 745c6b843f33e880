/-! AN ARRIVAL -/
theorem ff_c {p q : Nat → Bool} : ∀ n, (∀ k, k < n → p k = q k) → ff p n = ff q n
  | 0, _ => rfl
  | n + 1, h => by
    unfold ff
    rw [ff_c n (fun k hk => h k (by omega)), h n (by omega)]
theorem fPl_c {v w : Nat → Nat} {x : Int32} (h2 : w 2 = v 2) (h : ∀ q, q < v 2 → w (146 + 7 * q) = v (146 + 7 * q)) : fPl w x = fPl v x := by
  unfold fPl
  rw [h2]
  exact ff_c _ (fun k hk => by rw [h k hk])
theorem fC_up {v : Nat → Nat} {k x p : Nat} (h : k < 146) (h2 : k ≠ 2) (hp : p < v 2) : fCeases (up v k x) p = up (fCeases v p) k x := by
  funext j
  rw [up_a]
  unfold fCeases
  rw [up_n (show 2 ≠ k from fun z => h2 z.symm)]
  by_cases c : j = k
  · subst c
    rw [if_pos rfl, if_neg h2, if_neg (by omega), if_neg (by omega), up_s]
  · rw [if_neg c, up_n c]
    by_cases q : 146 + 7 * p ≤ j ∧ j < 146 + 7 * (v 2 - 1)
    · rw [if_pos q, if_pos q, up_n (by omega)]
    · rw [if_neg q, if_neg q]
section ARRS
variable {G : mgT} {μ : mmT} {a b n : Nat} {S S' : cT} {v w : Nat → Nat} {jc jm : Nat}
theorem RelM_u {p : Nat} (h : RelM S v jm) (rP : RelP S) (l2 : v 2 ≤ 16) (hp : p < v 2) (h2 : w 2 = v 2) (h4 : w 4 = v 4) (hv : ∀ j, 146 ≤ j → j < 146 + 7 * p ∨ 146 + 7 * p + 7 ≤ j → w j = v j) (hP : cP S' = cP S) (hf : ∀ F k, 128 ≤ F → F ≤ 133 → k ≠ 27 + cP S p → cF S' F k = cF S F k)
    (hrow : (cF S' 128 (27 + cP S p) = nI (w (146 + 7 * p)) ∧ cF S' 129 (27 + cP S p) = nI (w (146 + 7 * p + 1)) ∧ cF S' 130 (27 + cP S p) = nI (w (146 + 7 * p + 2)) ∧ cF S' 131 (27 + cP S p) = nI (w (146 + 7 * p + 3)) ∧ cF S' 132 (27 + cP S p) = nI (w (146 + 7 * p + 4))) ∧
      (w (146 + 7 * p + 4) = 110 → cF S' 133 (27 + cP S p) = nI (w 4 + w (146 + 7 * p + 5) - (if jm ≤ p ∧ w (146 + 7 * p + 6) = 0 then 1 else 0)))) : RelM S' w jm := by
  intro q hq
  rw [h2] at hq
  rw [hP]
  by_cases c : q = p
  · subst c
    exact hrow
  · have hk : 27 + cP S q ≠ 27 + cP S p := fun z => c ((rP p (by omega)).2 q (by omega) (by omega))
    rw [hv (146 + 7 * q) (by omega) (by omega), hv (146 + 7 * q + 1) (by omega) (by omega), hv (146 + 7 * q + 2) (by omega) (by omega), hv (146 + 7 * q + 3) (by omega) (by omega), hv (146 + 7 * q + 4) (by omega) (by omega), hv (146 + 7 * q + 5) (by omega) (by omega), hv (146 + 7 * q + 6) (by omega) (by omega), h4, hf 128 _ (by decide) (by decide) hk, hf 129 _ (by decide) (by decide) hk, hf 130 _ (by decide) (by decide) hk, hf 131 _ (by decide) (by decide) hk, hf 132 _ (by decide) (by decide) hk, hf 133 _ (by decide) (by decide) hk]
    exact h q hq
theorem RelZ_u {k x : Nat} (h : RelZ S) (hx : x < 65536) : RelZ (fI S 132 k (nI x)) := by
  refine ⟨fun j hj => ?_, fun c hc => ?_⟩
  · rw [cF_fI]
    split
    · exact isCh_n hx
    · exact h.1 j hj
  · rw [fI_o (Or.inl (by decide))]
    exact h.2 c hc
/-- a total and its place -/
def TF (F k : Nat) : Prop := (F = 256 ∧ k = 3) ∨ (F = 257 ∧ k = 6) ∨ (F = 258 ∧ k = 7) ∨ (F = 259 ∧ k = 8) ∨ (F = 260 ∧ k = 9) ∨ (F = 261 ∧ k = 11) ∨ (F = 262 ∧ k = 10)
theorem RelT_u {F k x : Nat} (hF : TF F k) (h : RelT S v) : RelT (fI S F 4 (nI x)) (up v k x) := by
  obtain ⟨h0, h1, h2, h3, h4, h5, h6⟩ := h
  rcases hF with ⟨rfl, rfl⟩ | ⟨rfl, rfl⟩ | ⟨rfl, rfl⟩ | ⟨rfl, rfl⟩ | ⟨rfl, rfl⟩ | ⟨rfl, rfl⟩ | ⟨rfl, rfl⟩ <;> (refine ⟨?_, ?_, ?_, ?_, ?_, ?_, ?_⟩ <;> first | (rw [fI_s, up_s]; done) | (rw [fI_o (Or.inl (by decide)), up_n (by decide)]; assumption))
theorem Rel_u {F k x : Nat} (hF : TF F k) (l : Lim v) (h : Rel S v jc jm) : Rel (fI S F 4 (nI x)) (up v k x) jc jm := by
  obtain ⟨rS, rT, rN, rC, rM, rP, rZ⟩ := h
  have hk : 256 ≤ F ∧ F ≤ 262 ∧ k < 12 ∧ (k = 3 ∨ 6 ≤ k) := by
    unfold TF at hF
    omega
  exact ⟨RelS_c rS (fun j z y => up_n (by omega)) (fun F z y => fI_o (by omega)), RelT_u hF rT, RelN_c rN l (up_n (by omega)) (fun j z y => up_n (by omega)) (fun F k z y => fI_o (by omega)) rfl, RelC_c rC l.1.2.1 (up_n (by omega)) (up_n (by omega)) (fun j z y => up_n (by omega)) (fun F k z y => fI_o (by omega)),
    RelM_c rM l.1.2.2 (up_n (by omega)) (up_n (by omega)) (fun j z => up_n (by omega)) rfl (fun F k z y => fI_o (by omega)), RelP_c rP rfl, RelZ_c rZ (fun k => fI_o (by omega)) (fun k => fI_o (by omega))⟩
theorem Lim_up {k x : Nat} (l : Lim v) (h : (3 ≤ k ∧ k < 12) ∨ (138 ≤ k ∧ k < 146)) : Lim (up v k x) := by
  have l0 := l.1.1
  refine ⟨?_, fun n hn => ?_, fun p hp => ?_⟩
  · rw [up_n (by omega), up_n (by omega), up_n (by omega)]
    exact l.1
  · rw [up_n (by omega)] at hn
    rw [up_n (by omega), up_n (by omega), up_n (by omega), up_n (by omega)]
    exact l.2.1 n hn
  · rw [up_n (by omega)] at hp
    rw [up_n (by omega), up_n (by omega)]
    exact l.2.2 p hp
theorem Lim_upM {p j x : Nat} (l : Lim v) (hp : p < v 2) (h : 2 ≤ j ∧ j < 7) : Lim (up v (146 + 7 * p + j) x) := by
  have l0 := l.1.1
  refine ⟨?_, fun n hn => ?_, fun q hq => ?_⟩
  · rw [up_n (by omega), up_n (by omega), up_n (by omega)]
    exact l.1
  · rw [up_n (by omega)] at hn
    rw [up_n (by omega), up_n (by omega), up_n (by omega), up_n (by omega)]
    exact l.2.1 n hn
  · rw [up_n (by omega)] at hq
    rw [up_n (by omega), up_n (by omega)]
    exact l.2.2 q hq
theorem Lim_arr1 {p : Nat} (l : Lim v) (hp : p < v 2) : Lim (fArr1 v p) := Lim_up (Lim_upM l hp (by decide)) (by decide)
theorem Rel_arr1 {p : Nat} (l : Lim v) (hp : p < v 2) (h : Rel S v jc jm) : Rel (fI (fI S 131 (27 + cP S p) (nI (v (146 + 7 * p + 3) + 1))) 262 4 (nI (v 10 + 1))) (fArr1 v p) jc jm := by
  unfold fArr1
  refine Rel_u (Or.inr (Or.inr (Or.inr (Or.inr (Or.inr (Or.inr ⟨rfl, rfl⟩)))))) (Lim_upM l hp (by decide)) ?_
  obtain ⟨rS, rT, rN, rC, rM, rP, rZ⟩ := h
  have l0 := l.1.1
  have m := rM p hp
  refine ⟨RelS_c rS (fun j z y => up_n (by omega)) (fun F z y => fI_o (by omega)), RelT_c rT (fun j z y => up_n (by omega)) (fun F z y => fI_o (by omega)), RelN_c rN l (up_n (by omega)) (fun j z y => up_n (by omega)) (fun F k z y => fI_o (by omega)) rfl, RelC_c rC l.1.2.1 (up_n (by omega)) (up_n (by omega)) (fun j z y => up_n (by omega)) (fun F k z y => fI_o (by omega)),
    RelM_u rM rP l.1.2.2 hp (up_n (by omega)) (up_n (by omega)) (fun j z y => up_n (by omega)) rfl (fun F k z y y2 => fI_o (by omega)) ?_, RelP_c rP rfl, RelZ_c rZ (fun k => fI_o (by omega)) (fun k => fI_o (by omega))⟩
  rw [fI_o (by omega), fI_o (by omega), fI_o (by omega), fI_s, fI_o (by omega), fI_o (by omega), up_s, up_n (by omega), up_n (by omega), up_n (by omega), up_n (by omega), up_n (by omega), up_n (by omega), up_n (by omega)]
  exact ⟨⟨m.1.1, m.1.2.1, m.1.2.2.1, rfl, m.1.2.2.2.2⟩, m.2⟩
theorem shN : ∀ t, t < 5 → ((lN 1) <<< ((nI t).toInt64 &&& 63)).toInt32 = nI (2 ^ t) := by decide +kernel
end ARRS

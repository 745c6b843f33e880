/-! TOTALS OVER MINUTES -/
section TOTM
variable {v w : Nat → Nat} {p n i d c x y k id j b : Nat}
theorem vj_arrP (hj : j = 4 ∨ j = 7 ∨ j = 11) : fArrP v p j = v j := by
  unfold fArrP
  split
  · rw [fC_lo (by omega) (by omega), up_n (by omega), fArr1_o (by omega) (by omega)]
  · split
    · unfold fDeliv
      have e : ∀ (g : Nat → Nat) (n key : Nat), fLearns g n key j = g j := fun g n key => by
        unfold fLearns
        split
        · show (if _ then _ else _) = _
          rw [if_neg (by omega), if_neg (by omega)]
        · rw [up_n (by omega), up_n (by omega)]
      rw [e, up_n (by omega), up_n (by omega), up_n (by omega), up_n (by omega), up_n (by omega), fArr1_o (by omega) (by omega)]
    · split
      · rw [fC_lo (by omega) (by omega), up_n (by omega), fArr1_o (by omega) (by omega)]
      · unfold fNap
        rw [up_n (by omega), up_n (by omega), up_n (by omega), fArr1_o (by omega) (by omega)]
theorem vj_land (hj : j = 4 ∨ j = 7 ∨ j = 11) : fLand c v j = v j := by
  unfold fLand fArrives
  split
  · rfl
  · split
    · rw [up_n (by omega)]
    · rw [vj_arrP hj, up_n (by omega), up_n (by omega)]
theorem vj_wake (hj : j < 146) : fWake p v j = v j := fWk_lo hj
theorem vj_send (hj : j = 4 ∨ j = 7 ∨ j = 11 ∨ j = 6 ∨ j = 10) : fSend c v j = v j := by
  unfold fSend fSendP
  split
  · split
    · rw [up_n (by omega), up_n (by omega), up_n (by omega)]
    · rfl
  · rfl
theorem vj_itr {f : Nat → (Nat → Nat) → Nat → Nat} (h : ∀ i v, f i v j = v j) : ∀ d i v, itr f d i v j = v j
  | 0, _, _ => rfl
  | d + 1, i, v => by
    show itr f d (i + 1) (f i v) j = v j
    rw [vj_itr h d, h]
theorem vj_minute (hj : j = 7 ∨ j = 11) : fMinute v j = v j := by
  unfold fMinute
  rw [vj_itr (fun _ _ => vj_send (by omega)), vj_itr (fun _ _ => vj_wake (by omega)), vj_itr (fun _ _ => vj_land (by omega))]
  exact up_n (by omega)
theorem v4_minute : fMinute v 4 = v 4 + 1 := by
  unfold fMinute
  rw [vj_itr (fun _ _ => vj_send (by omega)), vj_itr (fun _ _ => vj_wake (by omega)), vj_itr (fun _ _ => vj_land (by omega))]
  exact up_s _ _ _
theorem vj_itm (hj : j = 7 ∨ j = 11) : ∀ k v, itm k v j = v j
  | 0, _ => rfl
  | k + 1, v => by
    show itm k (fMinute v) j = v j
    rw [vj_itm hj k, vj_minute hj]
theorem v4_itm : ∀ k v, itm k v 4 = v 4 + k
  | 0, _ => rfl
  | k + 1, v => by
    show itm k (fMinute v) 4 = v 4 + (k + 1)
    rw [v4_itm k, v4_minute]
    omega
/-- arrivals grow by at least the deliveries -/
theorem va_arrP : fArrP v p 6 + v 10 ≤ fArrP v p 10 + v 6 := by
  have w10 : fArr1 v p 10 = v 10 + 1 := by unfold fArr1; rw [up_s]
  have w6 : fArr1 v p 6 = v 6 := fArr1_o (by omega) (by omega)
  unfold fArrP
  split
  · rw [fC_lo (by omega) (by omega), fC_lo (by omega) (by omega), up_n (by omega), up_n (by omega)]
    omega
  · split
    · unfold fDeliv
      have e : ∀ (g : Nat → Nat) (n key j : Nat), j < 12 → fLearns g n key j = g j := fun g n key j hj => by
        unfold fLearns
        split
        · show (if _ then _ else _) = _
          rw [if_neg (by omega), if_neg (by omega)]
        · rw [up_n (by omega), up_n (by omega)]
      rw [e _ _ _ 6 (by omega), e _ _ _ 10 (by omega), up_s, up_n (by omega), up_n (by omega), up_n (by omega), up_n (by omega), up_n (by omega)]
      omega
    · split
      · rw [fC_lo (by omega) (by omega), fC_lo (by omega) (by omega), up_n (by omega), up_n (by omega)]
        omega
      · unfold fNap
        rw [up_n (by omega), up_n (by omega), up_n (by omega), up_n (by omega), up_n (by omega), up_n (by omega)]
        omega
theorem va_land : fLand c v 6 + v 10 ≤ fLand c v 10 + v 6 := by
  unfold fLand fArrives
  split
  · omega
  · split
    · rw [up_n (by omega), up_n (by omega)]
      omega
    · have := va_arrP (v := up (up v (138 + 2 * c + 1) (v (138 + 2 * c + 1) - 1)) (138 + 2 * c) 0) (p := fPl (up (up v (138 + 2 * c + 1) (v (138 + 2 * c + 1) - 1)) (138 + 2 * c) 0) (nI (v (138 + 2 * c) - 1)))
      rw [up_n (show 6 ≠ 138 + 2 * c by omega), up_n (show 6 ≠ 138 + 2 * c + 1 by omega), up_n (show 10 ≠ 138 + 2 * c by omega), up_n (show 10 ≠ 138 + 2 * c + 1 by omega)] at this
      exact this
theorem va_itr {f : Nat → (Nat → Nat) → Nat → Nat} (h : ∀ i v, f i v 6 + v 10 ≤ f i v 10 + v 6) : ∀ d i v, itr f d i v 6 + v 10 ≤ itr f d i v 10 + v 6
  | 0, _, _ => Nat.le_of_eq (Nat.add_comm _ _)
  | d + 1, i, v => by
    show itr f d (i + 1) (f i v) 6 + v 10 ≤ itr f d (i + 1) (f i v) 10 + v 6
    have h1 := va_itr h d (i + 1) (f i v)
    have h2 := h i v
    omega
theorem va_minute : fMinute v 6 + v 10 ≤ fMinute v 10 + v 6 := by
  unfold fMinute
  rw [vj_itr (j := 6) (fun _ _ => vj_send (by omega)), vj_itr (j := 10) (fun _ _ => vj_send (by omega)), vj_itr (j := 6) (fun _ _ => vj_wake (by omega)), vj_itr (j := 10) (fun _ _ => vj_wake (by omega))]
  have := va_itr (fun i v => va_land (c := i) (v := v)) (fTick v 1) 0 (fTick v)
  have e6 : fTick v 6 = v 6 := up_n (by omega)
  have e10 : fTick v 10 = v 10 := up_n (by omega)
  rw [e6, e10] at this
  exact this
theorem va_itm : ∀ k v, itm k v 6 + v 10 ≤ itm k v 10 + v 6
  | 0, _ => Nat.le_of_eq (Nat.add_comm _ _)
  | k + 1, v => by
    show itm k (fMinute v) 6 + v 10 ≤ itm k (fMinute v) 10 + v 6
    have h1 := va_itm k (fMinute v)
    have h2 := va_minute (v := v)
    omega
/-- a message by its id -/
theorem fPl_of (h : J b 16 v) (hb2 : b < 2 ^ 31) (hp : p < v 2) : fPl v (nI (v (146 + 7 * p))) = p := fPl_id h.1.2.1 h.2.2 hb2 hp
theorem Has_fPl (h : J b 16 v) (hb2 : b < 2 ^ 31) (hh : Has v y x) : fPl v (nI y) < v 2 ∧ v (146 + 7 * fPl v (nI y)) = y ∧ v (146 + 7 * fPl v (nI y) + 4) = x := by
  obtain ⟨p, h1, rfl, h3⟩ := hh
  rw [fPl_of h hb2 h1]
  exact ⟨h1, rfl, h3⟩
theorem fPl_yes {a : Int32} (h : fPl v a < v 2) : nI (v (146 + 7 * fPl v a)) = a := of_decide_eq_true (ff_yes (fun p => decide (nI (v (146 + 7 * p)) = a)) (v 2) h)
theorem fPl_no {a : Int32} (h : ¬ fPl v a < v 2) : ∀ p, p < v 2 → nI (v (146 + 7 * p)) ≠ a := fun p hp e => by
  have hl := ff_le (fun p => decide (nI (v (146 + 7 * p)) = a)) (v 2)
  have : fPl v a = v 2 := by unfold fPl at h ⊢; omega
  have := ff_no (fun p => decide (nI (v (146 + 7 * p)) = a)) (v 2) p (by unfold fPl at this; omega)
  exact absurd e (of_decide_eq_false this)
end TOTM

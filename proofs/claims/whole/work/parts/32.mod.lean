/-! THE REFERENCE'S OWN METHODS, over VT -/
def MS (μ : mmT) (m : Nat) : Prop := mK μ m = 11 ∧ (mR μ 321 m = some (m + 1) ∧ mK μ (m + 1) = 34 ∧ mN μ (m + 1) = 258)
theorem cl {n : Nat} (h : n < 2 ^ 31) : (nI n).toNatClampNeg = n := nI_clamp h
theorem ix_of (p j : Nat) : nI 146 + nI 7 * nI p + nI j = nI (146 + 7 * p + j) := by rw [pk_mul, nI_add, nI_add]
theorem ix_nest (p j : Nat) : nI 12 + nI 21 * nI p + nI j = nI (12 + 21 * p + j) := by rw [pk_mul, nI_add, nI_add]
section MOD1
variable {G : mgT} {μ : mmT} {m : Nat} {v : Nat → Nat} {b : Nat}
/-- the array's entry: what a read of it owes -/
theorem s_X11_of {Q : Int32 → Prop} {p j : Nat} (hm : MS μ m) (hk : 146 + 7 * p + j < 258) (h : Q (nI (v (146 + 7 * p + j)))) : w_X11_of G (VT μ m v) m (nI p) (nI j) Q := by
  unfold w_X11_of
  rw [ix_of]
  refine ⟨hm.1, m + 1, hm.2.1, hm.2.2.1, ?_, ?_⟩
  · show vp_in _ (mN μ (m + 1))
    rw [hm.2.2.2]
    exact vp_in_nI hk (by omega)
  · rw [cl (by omega), VT_A]
    exact h
theorem s_X11_nest {Q : Int32 → Prop} {p j : Nat} (hm : MS μ m) (hk : 12 + 21 * p + j < 258) (h : Q (nI (v (12 + 21 * p + j)))) : w_X11_nest G (VT μ m v) m (nI p) (nI j) Q := by
  unfold w_X11_nest
  rw [ix_nest]
  refine ⟨hm.1, m + 1, hm.2.1, hm.2.2.1, ?_, ?_⟩
  · show vp_in _ (mN μ (m + 1))
    rw [hm.2.2.2]
    exact vp_in_nI hk (by omega)
  · rw [cl (by omega), VT_A]
    exact h
theorem s_X11_sets {Q : mmT → Prop} {p j x : Nat} (hm : MS μ m) (hk : 146 + 7 * p + j < 258) (h : Q (VT μ m (up v (146 + 7 * p + j) x))) : w_X11_sets G (VT μ m v) m (nI p) (nI j) (nI x) Q := by
  unfold w_X11_sets
  rw [ix_of]
  refine ⟨hm.1, m + 1, hm.2.1, hm.2.2.1, ?_, ?_⟩
  · show vp_in _ (mN μ (m + 1))
    rw [hm.2.2.2]
    exact vp_in_nI hk (by omega)
  · rw [cl (by omega), VT_sA]
    exact h
theorem s_X11_setsNest {Q : mmT → Prop} {p j x : Nat} (hm : MS μ m) (hk : 12 + 21 * p + j < 258) (h : Q (VT μ m (up v (12 + 21 * p + j) x))) : w_X11_setsNest G (VT μ m v) m (nI p) (nI j) (nI x) Q := by
  unfold w_X11_setsNest
  rw [ix_nest]
  refine ⟨hm.1, m + 1, hm.2.1, hm.2.2.1, ?_, ?_⟩
  · show vp_in _ (mN μ (m + 1))
    rw [hm.2.2.2]
    exact vp_in_nI hk (by omega)
  · rw [cl (by omega), VT_sA]
    exact h
theorem s_X11_in {ν : mmT} {Q : Int32 → Prop} {x y z : Int32} (h1 : y ≤ x → x ≤ z → Q 1) (h0 : ¬ (y ≤ x ∧ x ≤ z) → Q 0) : w_X11_in G ν x y z Q := by
  unfold w_X11_in w_X11_in_b14 w_X11_in_b15
  refine ⟨fun c => ⟨Or.inl rfl, h0 (fun q => ?_)⟩, fun c => ⟨fun c2 => ⟨Or.inl rfl, h0 (fun q => ?_)⟩, fun c2 => ⟨Or.inr rfl, h1 (Int32.not_lt.mp c) (Int32.not_lt.mp c2)⟩⟩⟩
  · exact Int32.not_lt.mpr q.1 c
  · exact Int32.not_lt.mpr q.2 c2
/-- below a number: 0 <= x <= n - 1 -/
theorem lt_of_in {x : Int32} {n : Nat} (hn : n < 2 ^ 30) (h1 : nI 0 ≤ x) (h2 : x ≤ nI n - nI 1) : ∃ k, k < n ∧ x = nI k := by
  rcases pk_ix x (n := n) (by omega) with q | q | q
  · exact absurd q (Int32.not_lt.mpr h1)
  · exfalso
    have a := Int32.le_iff_toInt_le.mp q
    have c := Int32.le_iff_toInt_le.mp h2
    rw [nI_toInt (by omega)] at a
    rw [pk_sub_toInt hn (by omega)] at c
    omega
  · exact q
theorem in_of_lt {n k : Nat} (hn : n < 2 ^ 30) (hk : k < n) : nI 0 ≤ nI k ∧ nI k ≤ nI n - nI 1 := by
  refine ⟨nI_le (by omega) (by omega), ?_⟩
  apply Int32.le_iff_toInt_le.mpr
  rw [nI_toInt (by omega), pk_sub_toInt hn (by omega)]
  omega
theorem s_X11_isNest {Q : Int32 → Prop} {x : Int32} (hm : MS μ m) (hv : v 0 < 2 ^ 30) (h1 : ∀ n, n < v 0 → x = nI n → Q 1) (h0 : (∀ n, n < v 0 → x ≠ nI n) → Q 0) : w_X11_isNest G (VT μ m v) m x Q := by
  unfold w_X11_isNest
  refine ⟨hm.1, m + 1, hm.2.1, hm.2.2.1, ?_, ?_⟩
  · show vp_in _ (mN μ (m + 1))
    rw [hm.2.2.2]
    exact vp_in_nI (by omega) (by omega)
  · rw [cl (by omega), VT_A]
    refine s_X11_in (fun a c => ⟨Or.inr rfl, ?_⟩) (fun a => ⟨Or.inl rfl, h0 (fun n hn e => ?_)⟩)
    · obtain ⟨k, hk, e⟩ := lt_of_in hv a c
      exact h1 k hk e
    · rw [e] at a
      exact a (in_of_lt hv hn)
theorem s_X11_isCrow {Q : Int32 → Prop} {x : Int32} (hm : MS μ m) (hv : v 1 < 2 ^ 30) (h1 : ∀ n, n < v 1 → x = nI n → Q 1) (h0 : (∀ n, n < v 1 → x ≠ nI n) → Q 0) : w_X11_isCrow G (VT μ m v) m x Q := by
  unfold w_X11_isCrow
  refine ⟨hm.1, m + 1, hm.2.1, hm.2.2.1, ?_, ?_⟩
  · show vp_in _ (mN μ (m + 1))
    rw [hm.2.2.2]
    exact vp_in_nI (by omega) (by omega)
  · rw [cl (by omega), VT_A]
    refine s_X11_in (fun a c => ⟨Or.inr rfl, ?_⟩) (fun a => ⟨Or.inl rfl, h0 (fun n hn e => ?_)⟩)
    · obtain ⟨k, hk, e⟩ := lt_of_in hv a c
      exact h1 k hk e
    · rw [e] at a
      exact a (in_of_lt hv hn)
/-- a read at a known place of the array -/
theorem rd_s {P : Nat → Prop} {k : Nat} (hm : MS μ m) (hk : k < 258) (h : P (m + 1)) : ∃ a, mR (VT μ m v) 321 m = some a ∧ (mK (VT μ m v) a = 34 ∧ (vp_in (nI k) (mN (VT μ m v) a) ∧ P a)) := by
  refine ⟨m + 1, hm.2.1, hm.2.2.1, ?_, h⟩
  show vp_in _ (mN μ (m + 1))
  rw [hm.2.2.2]
  exact vp_in_nI hk (by omega)
theorem s_X11_placeOf {Q : Int32 → Prop} {x : Int32} (hm : MS μ m) (hc : v 2 ≤ 16) (h : Q (pn (fPl v x) (v 2))) : w_X11_placeOf G (VT μ m v) m x Q := by
  unfold w_X11_placeOf
  refine (lpE (W := fun n i => (∀ j, j < i → ¬ nI (v (146 + 7 * j)) = x) → w_X11_placeOf_l2 G (VT μ m v) m Q n x (nI i)) (N := v 2) ?_ (Nat.zero_le _)).imp fun n hn => hn (fun j hj => absurd hj (Nat.not_lt_zero _))
  intro n i hi ih h0
  show w_X11_placeOf_b2 G (VT μ m v) m Q _ x (nI i)
  unfold w_X11_placeOf_b2
  refine ⟨hm.1, rd_s hm (by omega) ?_⟩
  rw [cl (by omega), VT_A]
  refine ⟨fun c => ?_, fun c => ?_⟩
  · have e : i = v 2 := by
      have := (nI_leI (by omega) (by omega)).mp c
      omega
    have e2 : fPl v x = v 2 := ff_none (fun j hj => decide_eq_false (h0 j (by omega)))
    rw [e2, pn_n (by omega)] at h
    exact h
  · have hl : i < v 2 := by
      by_cases q : i < v 2
      · exact q
      · exact absurd (nI_le (by omega) (by omega)) c
    refine s_X11_of hm (by omega) ⟨fun c2 => ?_, fun c2 => ?_⟩
    · have := ih hl (fun j hj => by
        by_cases q : j = i
        · rw [q]
          exact c2
        · exact h0 j (by omega))
      rw [nI_add]
      exact this
    · have e2 : fPl v x = i := ff_at hl (decide_eq_true c2) (fun j hj => decide_eq_false (h0 j hj))
      rw [e2, pn_y hl] at h
      exact h
end MOD1

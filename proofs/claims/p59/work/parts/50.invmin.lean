section INVM
variable {v w : Nat → Nat} {p n i d e t c : Nat}
theorem InvA_row {d2 i2 : Nat} (h : InvA v i d 0) (hp : p < v 2) (hw : ∀ j, j < 146 + 7 * p + 3 ∨ 146 + 7 * p + 7 ≤ j → w j = v j)
    (hrow : (w (146 + 7 * p + 4) = 119 ∨ w (146 + 7 * p + 4) = 102 ∨ w (146 + 7 * p + 4) = 110) ∧ w (146 + 7 * p + 3) ≤ 4 ∧ (w (146 + 7 * p + 4) = 110 → 1 ≤ w (146 + 7 * p + 5)) ∧ w (146 + 7 * p + 6) ≤ 1 ∧ (w (146 + 7 * p + 4) ≠ 110 → w (146 + 7 * p + 6) = 0) ∧ (p < i2 → w (146 + 7 * p + 6) = 0))
    (s1 : v (146 + 7 * p + 4) ≠ 100) (nc : v (146 + 7 * p + 4) = 102 → w (146 + 7 * p + 4) ≠ 102 → ∀ c, c < v 1 → v (138 + 2 * c) ≠ v (146 + 7 * p) + 1) (hd : d2 + (if v (146 + 7 * p + 4) = 102 then 1 else 0) = d + (if w (146 + 7 * p + 4) = 102 then 1 else 0)) (hi : ∀ q, q ≠ p → q < v 2 → q < i2 → v (146 + 7 * q + 6) = 0) : InvA w i2 d2 0 := by
  obtain ⟨l, a1, a2, a3, a4, a5, a6⟩ := h
  have l0 := l.1
  have n100 : ∀ q, v (146 + 7 * q + 4) = 100 → q ≠ p := fun q z y => s1 (by rw [← y]; exact z)
  have D2 := hw 2 (by omega)
  have D1 := hw 1 (by omega)
  have D0 := hw 0 (by omega)
  have Nst : ∀ q, q ≠ p → w (146 + 7 * q + 4) = v (146 + 7 * q + 4) := fun q hq => hw _ (by omega)
  refine ⟨⟨by rw [D0, D1, D2]; exact l.1, fun m hm => ?_, fun q hq => ?_⟩, ⟨fun q hq => ?_, fun q r hqr hr => ?_⟩, fun q hq => ?_, ⟨fun c hc => ?_, fun c e hce he => ?_⟩, ⟨fun m k hm hk => ?_, fun m k j hm hkj hj => ?_⟩, ?_, ?_⟩
  · rw [D0] at hm
    rw [hw _ (by omega), hw _ (by omega), hw _ (by omega), hw _ (by omega)]
    exact l.2.1 m hm
  · rw [D2] at hq
    rw [D0, hw _ (by omega)]
    exact l.2.2 q hq
  · rw [D2] at hq
    rw [hw _ (by omega), hw 3 (by omega)]
    exact a1.1 q hq
  · rw [D2] at hr
    rw [hw _ (by omega), hw _ (by omega)]
    exact a1.2 q r hqr hr
  · rw [D2] at hq
    have := a2 q hq
    by_cases c : q = p
    · subst c
      rw [hw (146 + 7 * q + 2) (by omega)]
      omega
    · rw [hw _ (by omega), hw _ (by omega), hw _ (by omega), hw _ (by omega), hw _ (by omega)]
      exact ⟨this.1, this.2.1, this.2.2.1, this.2.2.2.1, this.2.2.2.2.1, this.2.2.2.2.2.1, this.2.2.2.2.2.2.1, hi q c hq⟩
  · rw [D1] at hc
    rw [hw _ (by omega), hw _ (by omega)]
    intro z
    obtain ⟨r1, q, hq, e1, e2⟩ := a3.1 c hc z
    refine ⟨r1, q, by rw [D2]; exact hq, by rw [hw _ (by omega)]; exact e1, ?_⟩
    by_cases y : q = p
    · subst y
      by_cases x : w (146 + 7 * q + 4) = 102
      · exact x
      · exact absurd e1.symm (nc e2 x c hc)
    · rw [Nst q y]
      exact e2
  · rw [D1] at he
    rw [hw _ (by omega), hw _ (by omega)]
    exact a3.2 c e hce he
  · rw [D0] at hm
    have := (l.2.1 m hm).1
    rw [hw _ (by omega)] at hk
    rw [hw (12 + 21 * m + 3 + k) (by omega)]
    obtain ⟨q, hq, e1, e2, e3⟩ := a4.1 m k hm hk
    exact ⟨q, by rw [D2]; exact hq, by rw [hw _ (by omega)]; exact e1, by rw [Nst q (n100 q e2)]; exact e2, by rw [hw _ (by omega)]; exact e3⟩
  · rw [D0] at hm
    have := (l.2.1 m hm).1
    rw [hw _ (by omega)] at hj
    rw [hw _ (by omega), hw _ (by omega)]
    exact a4.2 m k j hm hkj hj
  · have q1 := cS_row (x := 102) hp D2 Nst
    have ec : cC w = cC v := by
      unfold cC
      rw [D1]
      exact cnt_c _ (fun k hk => by rw [hw _ (by omega)])
    rw [ec]
    omega
  · have q1 := cS_row (x := 100) hp D2 Nst
    have es : sN w = sN v := by
      unfold sN
      rw [D0]
      exact su_c _ (fun k hk => by rw [hw _ (by omega)])
    rw [if_neg s1, if_neg (show ¬ w (146 + 7 * p + 4) = 100 by omega)] at q1
    rw [es]
    omega
theorem InvA_crow {d2 : Nat} (h : InvA v i d e) (hc : c < v 1) (hw : ∀ j, j ≠ 138 + 2 * c → j ≠ 138 + 2 * c + 1 → w j = v j) (hrow : w (138 + 2 * c) ≠ 0 → 1 ≤ w (138 + 2 * c + 1) ∧ ∃ p, p < v 2 ∧ v (146 + 7 * p) + 1 = w (138 + 2 * c) ∧ v (146 + 7 * p + 4) = 102)
    (hdis : ∀ f, f < v 1 → f ≠ c → w (138 + 2 * c) ≠ 0 → w (138 + 2 * c) ≠ v (138 + 2 * f)) (hd : d + (if v (138 + 2 * c) = 0 then 0 else 1) = d2 + (if w (138 + 2 * c) = 0 then 0 else 1)) : InvA w i d2 e := by
  obtain ⟨l, a1, a2, a3, a4, a5, a6⟩ := h
  have l0 := l.1
  have D2 := hw 2 (by omega) (by omega)
  have D1 := hw 1 (by omega) (by omega)
  have D0 := hw 0 (by omega) (by omega)
  have M : ∀ j, j < 138 ∨ 146 ≤ j → w j = v j := fun j hj => hw j (by omega) (by omega)
  refine ⟨⟨by rw [D0, D1, D2]; exact l.1, fun m hm => ?_, fun q hq => ?_⟩, ⟨fun q hq => ?_, fun q r hqr hr => ?_⟩, fun q hq => ?_, ⟨fun f hf => ?_, fun f g hfg hg => ?_⟩, ⟨fun m k hm hk => ?_, fun m k j hm hkj hj => ?_⟩, ?_, ?_⟩
  · rw [D0] at hm
    rw [M _ (by omega), M _ (by omega), M _ (by omega), M _ (by omega)]
    exact l.2.1 m hm
  · rw [D2] at hq
    rw [D0, M _ (by omega)]
    exact l.2.2 q hq
  · rw [D2] at hq
    rw [M _ (by omega), M 3 (by omega)]
    exact a1.1 q hq
  · rw [D2] at hr
    rw [M _ (by omega), M _ (by omega)]
    exact a1.2 q r hqr hr
  · rw [D2] at hq
    rw [M _ (by omega), M _ (by omega), M _ (by omega), M _ (by omega), M _ (by omega)]
    exact a2 q hq
  · rw [D1] at hf
    by_cases y : f = c
    · subst y
      intro z
      obtain ⟨r1, q, hq, e1, e2⟩ := hrow z
      exact ⟨r1, q, by rw [D2]; exact hq, by rw [M _ (by omega)]; exact e1, by rw [M _ (by omega)]; exact e2⟩
    · rw [hw _ (by omega) (by omega), hw _ (by omega) (by omega)]
      intro z
      obtain ⟨r1, q, hq, e1, e2⟩ := a3.1 f hf z
      exact ⟨r1, q, by rw [D2]; exact hq, by rw [M _ (by omega)]; exact e1, by rw [M _ (by omega)]; exact e2⟩
  · rw [D1] at hg
    by_cases y : f = c
    · subst y
      rw [hw (138 + 2 * g) (by omega) (by omega)]
      exact hdis g hg (by omega)
    · by_cases x : g = c
      · subst x
        rw [hw (138 + 2 * f) (by omega) (by omega)]
        intro z1 z2
        exact hdis f (by omega) y (by rw [← z2]; exact z1) z2.symm
      · rw [hw _ (by omega) (by omega), hw _ (by omega) (by omega)]
        exact a3.2 f g hfg hg
  · rw [D0] at hm
    have := (l.2.1 m hm).1
    rw [M _ (by omega)] at hk
    rw [M (12 + 21 * m + 3 + k) (by omega)]
    obtain ⟨q, hq, e1, e2, e3⟩ := a4.1 m k hm hk
    exact ⟨q, by rw [D2]; exact hq, by rw [M _ (by omega)]; exact e1, by rw [M _ (by omega)]; exact e2, by rw [M _ (by omega)]; exact e3⟩
  · rw [D0] at hm
    have := (l.2.1 m hm).1
    rw [M _ (by omega)] at hj
    rw [M _ (by omega), M _ (by omega)]
    exact a4.2 m k j hm hkj hj
  · have es : cS w 102 = cS v 102 := by
      unfold cS
      rw [D2]
      exact cnt_c _ (fun k hk => by rw [M _ (by omega)])
    have ec : cC w + (if v (138 + 2 * c) = 0 then 0 else 1) = cC v + (if w (138 + 2 * c) = 0 then 0 else 1) := by
      unfold cC
      rw [D1]
      have := cnt_up (p := fun f => decide (v (138 + 2 * f) ≠ 0)) (q := fun f => decide (w (138 + 2 * f) ≠ 0)) (i := c) (v 1) hc (fun k _ hk => by rw [hw _ (by omega) (by omega)])
      simp only [decide_eq_true_eq, ne_eq, ite_not] at this
      exact this
    rw [es]
    omega
  · have es : cS w 100 = cS v 100 := by
      unfold cS
      rw [D2]
      exact cnt_c _ (fun k hk => by rw [M _ (by omega)])
    have en : sN w = sN v := by
      unfold sN
      rw [D0]
      exact su_c _ (fun k hk => by rw [M _ (by omega)])
    rw [es, en]
    exact a6
end INVM

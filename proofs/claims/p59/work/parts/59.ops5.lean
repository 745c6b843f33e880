section OPS5
variable {G : mgT} {μ : mmT} {a m : Nat} {S : cT} {v w : Nat → Nat} {p n i d e t c b x y k : Nat}
theorem J_post (h : J b 16 v) (hn : n < v 0) (hk : k ≤ 99) (h16 : v 2 < 16) (hb : 119 ≤ b) : J (b + 1) 16 (fPost v n k) := by
  obtain ⟨⟨l, a1, a2, a3, a4, a5, a6⟩, hT, hB⟩ := h
  have l0 := l.1
  have R := fQ_r (v := v) (n := n) (k := k)
  have D2 := fQ_2 (v := v) (n := n) (k := k)
  have D3 := fQ_3 (v := v) (n := n) (k := k)
  have u : ∀ j, j ≠ 2 → j ≠ 3 → j < 146 + 7 * v 2 ∨ 146 + 7 * v 2 + 7 ≤ j → fPost v n k j = v j := fun j z q y => fQ_o z q y
  have ur : ∀ q d, q < v 2 → d < 7 → fPost v n k (146 + 7 * q + d) = v (146 + 7 * q + d) := fun q d hq hd => fQ_o (by omega) (by omega) (by omega)
  have ur0 : ∀ q, q < v 2 → fPost v n k (146 + 7 * q) = v (146 + 7 * q) := fun q hq => fQ_o (by omega) (by omega) (by omega)
  have D0 := u 0 (by omega) (by omega) (by omega)
  have D1 := u 1 (by omega) (by omega) (by omega)
  have es : ∀ x, x ≠ 119 → cS (fPost v n k) x = cS v x := fun x hx => by
    unfold cS
    rw [D2]
    show cnt _ (v 2) + (if decide (fPost v n k (146 + 7 * v 2 + 4) = x) then 1 else 0) = _
    rw [R.2.2.2.2.1, cnt_c (q := fun q => decide (v (146 + 7 * q + 4) = x)) (v 2) (fun q hq => by rw [ur q 4 hq (by decide)])]
    simp only [decide_eq_true_eq]
    rw [if_neg (fun z => hx z.symm)]
    rfl
  refine ⟨⟨⟨?_, fun m hm => ?_, fun q hq => ?_⟩, ⟨fun q hq => ?_, fun q r hqr hr => ?_⟩, fun q hq => ?_, ⟨fun c hc2 => ?_, fun c e hce he => ?_⟩, ⟨fun m k hm hk => ?_, fun m k j hm hkj hj => ?_⟩, ?_, ?_⟩, ?_, fun j => ?_⟩
  · rw [D0, D1, D2]
    omega
  · rw [D0] at hm
    rw [u _ (by omega) (by omega) (by omega), u _ (by omega) (by omega) (by omega), u _ (by omega) (by omega) (by omega), u _ (by omega) (by omega) (by omega)]
    exact l.2.1 m hm
  · rw [D2] at hq
    rw [D0]
    by_cases z : q = v 2
    · subst z
      rw [R.2.1]
      exact hn
    · rw [ur q 1 (by omega) (by decide)]
      exact l.2.2 q (by omega)
  · rw [D2] at hq
    rw [D3]
    by_cases z : q = v 2
    · subst z
      rw [R.1]
      omega
    · rw [ur0 q (by omega)]
      have := a1.1 q (by omega)
      omega
  · rw [D2] at hr
    rw [ur0 q (by omega)]
    by_cases z : r = v 2
    · subst z
      rw [R.1]
      exact a1.1 q hqr
    · rw [ur0 r (by omega)]
      exact a1.2 q r hqr (by omega)
  · rw [D2] at hq
    by_cases z : q = v 2
    · subst z
      rw [R.2.2.1, R.2.2.2.1, R.2.2.2.2.1, R.2.2.2.2.2.1, R.2.2.2.2.2.2]
      omega
    · rw [ur q 2 (by omega) (by decide), ur q 3 (by omega) (by decide), ur q 4 (by omega) (by decide), ur q 5 (by omega) (by decide), ur q 6 (by omega) (by decide)]
      exact a2 q (by omega)
  · rw [D1] at hc2
    rw [u _ (by omega) (by omega) (by omega), u _ (by omega) (by omega) (by omega)]
    intro z
    obtain ⟨r1, q, hq, e1, e2⟩ := a3.1 c hc2 z
    exact ⟨r1, q, by rw [D2]; omega, by rw [ur0 q hq]; exact e1, by rw [ur q 4 hq (by decide)]; exact e2⟩
  · rw [D1] at he
    rw [u _ (by omega) (by omega) (by omega), u _ (by omega) (by omega) (by omega)]
    exact a3.2 c e hce he
  · rw [D0] at hm
    have := (l.2.1 m hm).1
    rw [u _ (by omega) (by omega) (by omega)] at hk
    obtain ⟨q, hq, e1, e2, e3⟩ := a4.1 m k hm hk
    rw [u (12 + 21 * m + 3 + k) (by omega) (by omega) (by omega)]
    exact ⟨q, by rw [D2]; omega, by rw [ur0 q hq]; exact e1, by rw [ur q 4 hq (by decide)]; exact e2, by rw [ur q 1 hq (by decide)]; exact e3⟩
  · rw [D0] at hm
    have := (l.2.1 m hm).1
    rw [u _ (by omega) (by omega) (by omega)] at hj
    rw [u (12 + 21 * m + 3 + k) (by omega) (by omega) (by omega), u (12 + 21 * m + 3 + j) (by omega) (by omega) (by omega)]
    exact a4.2 m k j hm hkj hj
  · have ec : cC (fPost v n k) = cC v := by
      unfold cC
      rw [D1]
      exact cnt_c _ (fun q hq => by rw [u _ (by omega) (by omega) (by omega)])
    rw [es 102 (by decide), ec]
    exact a5
  · have en : sN (fPost v n k) = sN v := by
      unfold sN
      rw [D0]
      exact su_c _ (fun q hq => u _ (by omega) (by omega) (by omega))
    rw [es 100 (by decide), en]
    exact a6
  · unfold tot at hT ⊢
    rw [D2, D3, u 7 (by omega) (by omega) (by omega), u 8 (by omega) (by omega) (by omega), u 9 (by omega) (by omega) (by omega), u 11 (by omega) (by omega) (by omega)]
    omega
  · have := hB j
    have b3 := hB 3
    have b0 := hB 0
    unfold fPost
    split
    · omega
    · split
      · omega
      · split
        · omega
        · split
          · omega
          · split
            · omega
            · split
              · omega
              · split <;> omega
end OPS5

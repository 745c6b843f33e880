section OPS5
variable {G : mgT} {μ : mmT} {a m : Nat} {S : cT} {v w : Nat → Nat} {p n i d e t c b x y k : Nat}
theorem J_post (h : J b 16 v) (hn : n < v 0) (hk : k ≤ 99) (h16 : v 2 < 16) (hb : 119 ≤ b) : J (b + 1) 16 (fPost v n k) := by
  obtain ⟨⟨l, a1, a2, a3, a4, a5, a6⟩, hT, hB⟩ := h
  have l0 := l.1
  have R := fQ_r (v := v) (n := n) (k := k)
  have D2 := fQ_2 (v := v) (n := n) (k := k)
  have D3 := fQ_3 (v := v) (n := n) (k := k)
  have u : ∀ j, j ≠ 2 → j ≠ 3 → j < 146 + 7 * v 2 ∨ 146 + 7 * v 2 + 7 ≤ j → fPost v n k j = v j := fun j z q y => fQ_o z q y
  have ur : ∀ q d, q < v 2 → d < 7 → fPost v n k (146 + 7 * q + d) = v (146 + 7 * q + d) := fun q d hq hd => fQ_o (by omega) (by omega) (by omega)
  have ur0 : ∀ q, q < v 2 → fPost v n k (146 + 7 * q) = v (146 + 7 * q) := fun q hq => fQ_o (by omega) (by omega) (by omega)
  have D0 := u 0 (by omega) (by omega) (by omega)
  have D1 := u 1 (by omega) (by omega) (by omega)
  have es : ∀ x, x ≠ 119 → cS (fPost v n k) x = cS v x := fun x hx => by
    unfold cS
    rw [D2]
    show cnt _ (v 2) + (if decide (fPost v n k (146 + 7 * v 2 + 4) = x) then 1 else 0) = _
    rw [R.2.2.2.2.1, cnt_c (q := fun q => decide (v (146 + 7 * q + 4) = x)) (v 2) (fun q hq => by rw [ur q 4 hq (by decide)])]
    simp only [decide_eq_true_eq]
    rw [if_neg (fun z => hx z.symm)]
    rfl
  refine ⟨⟨⟨?_, fun m hm => ?_, fun q hq => ?_⟩, ⟨fun q hq => ?_, fun q r hqr hr => ?_⟩, fun q hq => ?_, ⟨fun c hc2 => ?_, fun c e hce he => ?_⟩, ⟨fun m k hm hk => ?_, fun m k j hm hkj hj => ?_⟩, ?_, ?_⟩, ?_, fun j => ?_⟩
  · rw [D0, D1, D2]
    omega
  · rw [D0] at hm
    rw [u _ (by omega) (by omega) (by omega), u _ (by omega) (by omega) (by omega), u _ (by omega) (by omega) (by omega), u _ (by omega) (by omega) (by omega)]
    exact l.2.1 m hm
  · rw [D2] at hq
    rw [D0]
    by_cases z : q = v 2
    · subst z
      rw [R.2.1]
      exact hn
    · rw [ur q 1 (by omega) (by decide)]
      exact l.2.2 q (by omega)
  · rw [D2] at hq
    rw [D3]
    by_cases z : q = v 2
    · subst z
      rw [R.1]
      omega
    · rw [ur0 q (by omega)]
      have := a1.1 q (by omega)
      omega
  · rw [D2] at hr
    rw [ur0 q (by omega)]
    by_cases z : r = v 2
    · subst z
      rw [R.1]
      exact a1.1 q hqr
    · rw [ur0 r (by omega)]
      exact a1.2 q r hqr (by omega)
  · rw [D2] at hq
    by_cases z : q = v 2
    · subst z
      rw [R.2.2.1, R.2.2.2.1, R.2.2.2.2.1, R.2.2.2.2.2.1, R.2.2.2.2.2.2]
      omega
    · rw [ur q 2 (by omega) (by decide), ur q 3 (by omega) (by decide), ur q 4 (by omega) (by decide), ur q 5 (by omega) (by decide), ur q 6 (by omega) (by decide)]
      exact a2 q (by omega)
  · rw [D1] at hc2
    rw [u _ (by omega) (by omega) (by omega), u _ (by omega) (by omega) (by omega)]
    intro z
    obtain ⟨r1, q, hq, e1, e2⟩ := a3.1 c hc2 z
    exact ⟨r1, q, by rw [D2]; omega, by rw [ur0 q hq]; exact e1, by rw [ur q 4 hq (by decide)]; exact e2⟩
  · rw [D1] at he
    rw [u _ (by omega) (by omega) (by omega), u _ (by omega) (by omega) (by omega)]
    exact a3.2 c e hce he
  · rw [D0] at hm
    have := (l.2.1 m hm).1
    rw [u _ (by omega) (by omega) (by omega)] at hk
    obtain ⟨q, hq, e1, e2, e3⟩ := a4.1 m k hm hk
    rw [u (12 + 21 * m + 3 + k) (by omega) (by omega) (by omega)]
    exact ⟨q, by rw [D2]; omega, by rw [ur0 q hq]; exact e1, by rw [ur q 4 hq (by decide)]; exact e2, by rw [ur q 1 hq (by decide)]; exact e3⟩
  · rw [D0] at hm
    have := (l.2.1 m hm).1
    rw [u _ (by omega) (by omega) (by omega)] at hj
    rw [u (12 + 21 * m + 3 + k) (by omega) (by omega) (by omega), u (12 + 21 * m + 3 + j) (by omega) (by omega) (by omega)]
    exact a4.2 m k j hm hkj hj
  · have ec : cC (fPost v n k) = cC v := by
      unfold cC
      rw [D1]
      exact cnt_c _ (fun q hq => by rw [u _ (by omega) (by omega) (by omega)])
    rw [es 102 (by decide), ec]
    exact a5
  · have en : sN (fPost v n k) = sN v := by
      unfold sN
      rw [D0]
      exact su_c _ (fun q hq => u _ (by omega) (by omega) (by omega))
    rw [es 100 (by decide), en]
    exact a6
  · unfold tot at hT ⊢
    rw [D2, D3, u 7 (by omega) (by omega) (by omega), u 8 (by omega) (by omega) (by omega), u 9 (by omega) (by omega) (by omega), u 11 (by omega) (by omega) (by omega)]
    omega
  · have := hB j
    have b3 := hB 3
    have b0 := hB 0
    unfold fPost
    split
    · omega
    · split
      · omega
      · split
        · omega
        · split
          · omega
          · split
            · omega
            · split
              · omega
              · split <;> omega
theorem s_X11_publishes {Q : Int32 → mmT → Prop} {z1 z2 : Int32} (hm : MS μ m) (l : Lim v)
    (h1 : ∀ n k, n < v 0 → k ≤ 99 → z1 = nI n → z2 = nI k → v 2 < 16 → Q (nI 0) (sI (VT μ m (fPost v n k)) 335 m (nI (v 3))))
    (h3 : (∀ n, n < v 0 → z1 ≠ nI n) → Q (nI 1) (VT μ m v))
    (h2 : ∀ n, n < v 0 → z1 = nI n → (∀ k, k ≤ 99 → z2 ≠ nI k) → Q (nI 2) (VT μ m v))
    (h0 : ∀ n k, n < v 0 → k ≤ 99 → z1 = nI n → z2 = nI k → v 2 = 16 → Q (nI 3) (VT μ m v)) : w_X11_publishes G (VT μ m v) m z1 z2 Q := by
  have l0 := l.1
  unfold w_X11_publishes
  refine ⟨hm.1, s_X11_isNest hm (by omega) (fun n hn e1 => ⟨fun _ => s_X11_in (fun c0 c9 => ⟨fun _ => rd_s hm (by omega) ?_, fun z => absurd z (by decide)⟩) (fun c => ⟨fun z => absurd rfl z, fun _ => h2 n hn e1 (fun k hk e2 => c (by rw [e2]; exact ⟨nI_le (by omega) (by omega), nI_le (by omega) (by omega)⟩))⟩), fun z => absurd z (by decide)⟩) (fun q => ⟨fun z => absurd rfl z, fun _ => h3 q⟩)⟩
  obtain ⟨k, hk, e2⟩ := rg (by decide) (Int32.not_lt.mpr c0) c9
  rw [cl (show 2 < 2 ^ 31 by omega), VT_A]
  refine ⟨fun c => ?_, fun c => h0 n k hn hk e1 e2 ((nI_eq (by omega) (by omega)).mp c)⟩
  have hc : v 2 < 16 := by
    have : v 2 ≠ 16 := fun z => c (by rw [z])
    omega
  have hq := h1 n k hn hk e1 e2 hc
  subst e1
  subst e2
  clear h1 h2 h0 h3 c c0 c9
  refine (lpE (W := fun d i => w_X11_publishes_l40 G m Q d (nI n) (nI k) (nI (v 2)) (nI i) (VT μ m (fun j => if 146 + 7 * v 2 ≤ j ∧ j < 146 + 7 * v 2 + i then 0 else v j))) (N := 7) ?_ (Nat.zero_le _)).imp fun d hd => ?_
  · intro d i hi ih
    show w_X11_publishes_b40 G m Q _ (nI n) (nI k) (nI (v 2)) (nI i) _
    unfold w_X11_publishes_b40
    refine pk_le 7 i (fun c => ⟨hm.1, rd_s hm (by omega) ?_⟩) (fun c => ⟨hm.1, s_X11_sets hm (by omega) ?_⟩)
    · rw [cl (show 3 < 2 ^ 31 by omega), VT_A, if_neg (show ¬ (146 + 7 * v 2 ≤ 3 ∧ 3 < 146 + 7 * v 2 + i) by omega)]
      refine s_X11_sets hm (by omega) ⟨hm.1, s_X11_sets hm (by omega) ⟨hm.1, s_X11_sets hm (by omega) ⟨hm.1, s_X11_sets hm (by omega) ⟨hm.1, rd_s hm (by omega) ?_⟩⟩⟩⟩
      rw [cl (show 2 < 2 ^ 31 by omega), nI_add, VT_sA]
      refine rd_s hm (by omega) ⟨vin_s hm (by omega), ?_⟩
      rw [VT_A, up_n (show 3 ≠ 2 by omega), up_n (show 3 ≠ 146 + 7 * v 2 + 4 by omega), up_n (show 3 ≠ 146 + 7 * v 2 + 2 by omega), up_n (show 3 ≠ 146 + 7 * v 2 + 1 by omega), up_n (show 3 ≠ 146 + 7 * v 2 + 0 by omega), if_neg (show ¬ (146 + 7 * v 2 ≤ 3 ∧ 3 < 146 + 7 * v 2 + i) by omega), nI_add, VT_sA]
      refine rd_s hm (by omega) ?_
      rw [VT_A, up_s, pk_sub (by omega), Nat.add_sub_cancel, VT_c (w := fPost v n k) (fun j => ?_)]
      · exact s_X11_done hm.1 hq
      · simp only [up_a]
        unfold fPost
        by_cases z3 : j = 3
        · rw [if_pos z3, if_neg (by omega), if_pos z3]
        · rw [if_neg z3]
          by_cases z2 : j = 2
          · rw [if_pos z2, if_pos z2]
          · rw [if_neg z2, if_neg z2, if_neg z3]
            by_cases y0 : j = 146 + 7 * v 2
            · rw [if_neg (by omega), if_neg (by omega), if_neg (by omega), if_pos (by omega), if_pos y0]
            · by_cases y1 : j = 146 + 7 * v 2 + 1
              · rw [if_neg (by omega), if_neg (by omega), if_pos y1, if_neg y0, if_pos y1]
              · by_cases y2 : j = 146 + 7 * v 2 + 2
                · rw [if_neg (by omega), if_pos y2, if_neg y0, if_neg y1, if_pos y2]
                · by_cases y4 : j = 146 + 7 * v 2 + 4
                  · rw [if_pos y4, if_neg y0, if_neg y1, if_neg y2, if_pos y4]
                  · rw [if_neg y4, if_neg y2, if_neg y1, if_neg (by omega), if_neg y0, if_neg y1, if_neg y2, if_neg y4]
                    by_cases z : 146 + 7 * v 2 ≤ j ∧ j < 146 + 7 * v 2 + 7
                    · rw [if_pos z, if_pos (by omega)]
                    · rw [if_neg z, if_neg (by omega)]
    · rw [nI_add]
      have := ih c
      rw [VT_c (fun j => ?_)] at this
      · exact this
      · rw [up_a]
        by_cases y : j = 146 + 7 * v 2 + i
        · rw [if_pos y, if_pos (by omega)]
        · rw [if_neg y]
          by_cases z : 146 + 7 * v 2 ≤ j ∧ j < 146 + 7 * v 2 + i
          · rw [if_pos z, if_pos (by omega)]
          · rw [if_neg z, if_neg (by omega)]
  · rw [VT_c (w := v) (fun j => ?_)] at hd
    · exact hd
    · rw [if_neg (by omega)]
end OPS5

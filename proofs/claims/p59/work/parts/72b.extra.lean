/-! WHAT ELSE HOLDS OF THE ROW IS KEPT: by a row that ceases, a message's row, a crow's -/
section EXTRA1
variable {v w u : Nat → Nat} {p n i d e t c b x y k : Nat}
theorem EN_c (h : EN v) (h2 : w 2 = v 2) (hv : ∀ q, q < v 2 → w (146 + 7 * q + 3) = v (146 + 7 * q + 3) ∧ w (146 + 7 * q + 4) = v (146 + 7 * q + 4) ∧ w (146 + 7 * q + 5) = v (146 + 7 * q + 5)) : EN w := fun q hq => by
  rw [h2] at hq
  obtain ⟨a1, a2, a3⟩ := hv q hq
  rw [a1, a2, a3]
  exact h q hq
theorem EN_row (h : EN v) (h2 : w 2 = v 2) (hv : ∀ q, q < v 2 → q ≠ p → w (146 + 7 * q + 3) = v (146 + 7 * q + 3) ∧ w (146 + 7 * q + 4) = v (146 + 7 * q + 4) ∧ w (146 + 7 * q + 5) = v (146 + 7 * q + 5))
    (hr : (w (146 + 7 * p + 4) = 110 → 1 ≤ w (146 + 7 * p + 3) ∧ w (146 + 7 * p + 5) ≤ 2 ^ w (146 + 7 * p + 3)) ∧ (w (146 + 7 * p + 4) = 100 → 1 ≤ w (146 + 7 * p + 3))) : EN w := fun q hq => by
  rw [h2] at hq
  by_cases e : q = p
  · subst e
    exact hr
  · obtain ⟨a1, a2, a3⟩ := hv q hq e
    rw [a1, a2, a3]
    exact h q hq
theorem EN_ceases (h : EN v) (hp : p < v 2) : EN (fCeases v p) := fun q hq => by
  rw [fC_2] at hq
  rw [fC_m hq (by decide), fC_m hq (by decide), fC_m hq (by decide)]
  exact h _ (by split <;> omega)
theorem EF_c (h : EF v) (h1 : w 1 = v 1) (h2 : w 2 = v 2) (hc : ∀ c, c < v 1 → w (138 + 2 * c) = v (138 + 2 * c) ∧ w (138 + 2 * c + 1) = v (138 + 2 * c + 1)) (hp : ∀ p, p < v 2 → w (146 + 7 * p) = v (146 + 7 * p) ∧ w (146 + 7 * p + 1) = v (146 + 7 * p + 1)) (hd : ∀ p, p < v 2 → w (12 + 21 * v (146 + 7 * p + 1)) = v (12 + 21 * v (146 + 7 * p + 1))) : EF w := fun c p hc' hp' => by
  rw [h1] at hc'
  rw [h2] at hp'
  rw [(hc c hc').1, (hc c hc').2, (hp p hp').1, (hp p hp').2, hd p hp']
  exact h c p hc' hp'
theorem EF_ceases (h : EF v) (l : Lim v) (hp : p < v 2) : EF (fCeases v p) := fun c q hc hq e => by
  have l1 := l.1
  rw [fC_lo (by decide) (by decide)] at hc
  rw [fC_2] at hq
  have hs : (if p ≤ q then q + 1 else q) < v 2 := by split <;> omega
  have hn := l.2.2 _ hs
  rw [fC_lo (by omega) (by omega), fC_0 hq] at e
  rw [fC_lo (by omega) (by omega), fC_m hq (by decide), fC_lo (by omega) (by omega)]
  exact h c _ hc hs e
theorem EF_crow (h : EF v) (h1 : w 1 = v 1) (h2 : w 2 = v 2) (hc : ∀ d, d < v 1 → d ≠ c → w (138 + 2 * d) = v (138 + 2 * d) ∧ w (138 + 2 * d + 1) = v (138 + 2 * d + 1)) (hp : ∀ p, p < v 2 → w (146 + 7 * p) = v (146 + 7 * p) ∧ w (146 + 7 * p + 1) = v (146 + 7 * p + 1)) (hd : ∀ p, p < v 2 → w (12 + 21 * v (146 + 7 * p + 1)) = v (12 + 21 * v (146 + 7 * p + 1)))
    (hr : ∀ p, p < v 2 → w (138 + 2 * c) = v (146 + 7 * p) + 1 → w (138 + 2 * c + 1) ≤ v (12 + 21 * v (146 + 7 * p + 1)) + 1) : EF w := fun f p hf hp' => by
  rw [h1] at hf
  rw [h2] at hp'
  rw [(hp p hp').1, (hp p hp').2, hd p hp']
  by_cases e : f = c
  · subst e
    exact hr p hp'
  · rw [(hc f hf e).1, (hc f hf e).2]
    exact h f p hf hp'
theorem EK_c (h : EK v) (l : Lim v) (h0 : w 0 = v 0) (hv : ∀ n d, n < v 0 → 11 ≤ d → d < 20 → w (12 + 21 * n + d) = v (12 + 21 * n + d)) : EK w := fun n hn => by
  rw [h0] at hn
  have l8 := (l.2.1 n hn).2.1
  have hk : ∀ k, k < v (12 + 21 * n + 11) → w (12 + 21 * n + 12 + k) = v (12 + 21 * n + 12 + k) := fun k hk => by
    have := hv n (12 + k) hn (by omega) (by omega)
    rw [show 12 + 21 * n + (12 + k) = 12 + 21 * n + 12 + k by omega] at this
    exact this
  rw [hv n 11 hn (by omega) (by omega)]
  obtain ⟨a, b⟩ := h n hn
  exact ⟨fun k q => by rw [hk k q]; exact a k q, fun j k q1 q2 => by rw [hk j (by omega), hk k q2]; exact b j k q1 q2⟩
theorem cS_c (h2 : w 2 = v 2) (hv : ∀ q, q < v 2 → w (146 + 7 * q + 4) = v (146 + 7 * q + 4)) : cS w x = cS v x := by
  unfold cS
  rw [h2]
  exact cnt_c _ (fun q hq => by rw [hv q hq])
theorem EK_ceases (h : EK v) (l : Lim v) : EK (fCeases v p) := by
  have l0 := l.1.1
  exact EK_c h l (fC_lo (by decide) (by decide)) (fun n d hn _ _ => fC_lo (by omega) (by omega))
/-- what changes the counts of published and cancelled messages, time and wind alone -/
theorem EE_lo (h : EE v) (l : Lim v) (hv : ∀ j, j < 3 ∨ (6 ≤ j ∧ j ≠ 11) → w j = v j) : EE w := by
  obtain ⟨a, b, ⟨c1, c2⟩, d⟩ := h
  have l0 := l.1
  refine ⟨EN_c a (hv 2 (by omega)) (fun q _ => ⟨hv _ (by omega), hv _ (by omega), hv _ (by omega)⟩), EF_c b (hv 1 (by omega)) (hv 2 (by omega)) (fun c _ => ⟨hv _ (by omega), hv _ (by omega)⟩) (fun p _ => ⟨hv _ (by omega), hv _ (by omega)⟩) (fun p _ => hv _ (by omega)), ⟨?_, ?_⟩, EK_c d l (hv 0 (by omega)) (fun n d _ _ _ => hv _ (by omega))⟩
  · rw [hv 6 (by omega), hv 8 (by omega), hv 9 (by omega), hv 10 (by omega)]
    exact c1
  · rw [hv 6 (by omega), hv 7 (by omega), cS_c (hv 2 (by omega)) (fun q _ => hv _ (by omega))]
    exact c2
theorem EE_ceases (h : EE v) (l : Lim v) (hp : p < v 2) (hs : v (146 + 7 * p + 4) ≠ 100) : EE (fCeases v p) := by
  obtain ⟨a, b, ⟨c1, c2⟩, d⟩ := h
  have q1 := cS_ceases (x := 100) hp
  rw [if_neg hs] at q1
  refine ⟨EN_ceases a hp, EF_ceases b l hp, ⟨?_, ?_⟩, EK_ceases d l⟩
  · rw [fC_lo (by decide) (by decide), fC_lo (by decide) (by decide), fC_lo (by decide) (by decide), fC_lo (by decide) (by decide)]
    exact c1
  · rw [fC_lo (by decide) (by decide), fC_lo (by decide) (by decide)]
    omega
/-- the keys, one learned -/
theorem fKn_no {key : Nat} (h : ¬ fKnows v n key = true) : ∀ k, k < v (12 + 21 * n + 11) → v (12 + 21 * n + 12 + k) ≠ key := by
  intro k hk e
  have hl := ff_le (fun k => decide (v (12 + 21 * n + 12 + k) = key)) (v (12 + 21 * n + 11))
  have h2 : ¬ ff (fun k => decide (v (12 + 21 * n + 12 + k) = key)) (v (12 + 21 * n + 11)) < v (12 + 21 * n + 11) := fun q => h (decide_eq_true q)
  have h3 := ff_no (fun k => decide (v (12 + 21 * n + 12 + k) = key)) (v (12 + 21 * n + 11)) k (by omega)
  exact absurd e (of_decide_eq_false h3)
theorem EK_learns {key : Nat} (h : EK v) (l : Lim v) (hn : n < v 0) (hk : key ≤ 99) (hno : ∀ k, k < v (12 + 21 * n + 11) → v (12 + 21 * n + 12 + k) ≠ key) (h0 : w 0 = v 0) (hv : ∀ m d, m < v 0 → 11 ≤ d → d < 20 → w (12 + 21 * m + d) = fLearns v n key (12 + 21 * m + d)) : EK w := by
  intro m hm
  rw [h0] at hm
  have l0 := l.1.1
  have l8 := (l.2.1 m hm).2.1
  have n8 := (l.2.1 n hn).2.1
  obtain ⟨a, b⟩ := h m hm
  have wc : w (12 + 21 * m + 11) = fLearns v n key (12 + 21 * m + 11) := hv m 11 hm (by omega) (by omega)
  have wk : ∀ k, k < 8 → w (12 + 21 * m + 12 + k) = fLearns v n key (12 + 21 * m + 12 + k) := fun k q => by
    have := hv m (12 + k) hm (by omega) (by omega)
    rw [show 12 + 21 * m + (12 + k) = 12 + 21 * m + 12 + k by omega] at this
    exact this
  by_cases e : m = n
  · subst e
    unfold fLearns at wc wk
    by_cases c8 : v (12 + 21 * m + 11) = 8
    · rw [if_pos c8] at wc wk
      have wc2 : w (12 + 21 * m + 11) = 8 := by
        rw [wc]
        show (if _ then _ else _) = _
        rw [if_neg (by omega), if_neg (by omega)]
        exact c8
      have wk2 : ∀ k, k < 8 → w (12 + 21 * m + 12 + k) = if k = 7 then key else v (12 + 21 * m + 12 + (k + 1)) := fun k q => by
        rw [wk k q]
        show (if _ then _ else _) = _
        by_cases z : k = 7
        · rw [if_pos z, if_neg (by omega), if_pos (by omega)]
        · rw [if_neg z, if_pos (by omega)]
          congr 1
      rw [wc2]
      refine ⟨fun k q => ?_, fun j k q1 q2 => ?_⟩
      · rw [wk2 k q]
        split
        · exact hk
        · exact a _ (by omega)
      · rw [wk2 j (by omega), wk2 k q2, if_neg (by omega)]
        by_cases z : k = 7
        · rw [if_pos z]
          exact hno _ (by omega)
        · rw [if_neg z]
          exact b _ _ (by omega) (by omega)
    · rw [if_neg c8] at wc wk
      have wc2 : w (12 + 21 * m + 11) = v (12 + 21 * m + 11) + 1 := by rw [wc, up_s]
      have wk2 : ∀ k, k < v (12 + 21 * m + 11) + 1 → w (12 + 21 * m + 12 + k) = if k = v (12 + 21 * m + 11) then key else v (12 + 21 * m + 12 + k) := fun k q => by
        rw [wk k (by omega), up_n (by omega), up_a]
        by_cases z : k = v (12 + 21 * m + 11)
        · rw [if_pos z, if_pos (by omega)]
        · rw [if_neg z, if_neg (by omega)]
      rw [wc2]
      refine ⟨fun k q => ?_, fun j k q1 q2 => ?_⟩
      · rw [wk2 k q]
        split
        · exact hk
        · exact a _ (by omega)
      · rw [wk2 j (by omega), wk2 k q2, if_neg (by omega)]
        by_cases z : k = v (12 + 21 * m + 11)
        · rw [if_pos z]
          exact hno _ (by omega)
        · rw [if_neg z]
          exact b _ _ q1 (by omega)
  · have o : ∀ d, 11 ≤ d → d < 20 → fLearns v n key (12 + 21 * m + d) = v (12 + 21 * m + d) := fun d h1 h2 => fLearns_k (by omega) n8 (fun d' _ _ => by omega)
    have wc2 : w (12 + 21 * m + 11) = v (12 + 21 * m + 11) := wc.trans (o 11 (by omega) (by omega))
    have wk2 : ∀ k, k < 8 → w (12 + 21 * m + 12 + k) = v (12 + 21 * m + 12 + k) := fun k q => by
      rw [wk k q]
      have := o (12 + k) (by omega) (by omega)
      rw [show 12 + 21 * m + (12 + k) = 12 + 21 * m + 12 + k by omega] at this
      exact this
    rw [wc2]
    exact ⟨fun k q => by rw [wk2 k (by omega)]; exact a k q, fun j k q1 q2 => by rw [wk2 j (by omega), wk2 k (by omega)]; exact b j k q1 q2⟩
theorem fLearns_c {g : Nat → Nat} {key m : Nat} (hn : n < w 0) (bo : ∀ m d, m < w 0 → 11 ≤ d → d < 20 → g (12 + 21 * m + d) = w (12 + 21 * m + d)) (q1 : m < w 0) (q2 : 11 ≤ d) (q3 : d < 20) : fLearns g n key (12 + 21 * m + d) = fLearns w n key (12 + 21 * m + d) := by
  unfold fLearns
  rw [bo n 11 hn (by omega) (by omega)]
  by_cases c8 : w (12 + 21 * n + 11) = 8
  · rw [if_pos c8, if_pos c8]
    show (if _ then _ else _) = (if _ then _ else _)
    by_cases y1 : 12 + 21 * n + 12 ≤ 12 + 21 * m + d ∧ 12 + 21 * m + d < 12 + 21 * n + 19
    · rw [if_pos y1, if_pos y1]
      obtain rfl : m = n := by omega
      exact bo m (d + 1) q1 (by omega) (by omega)
    · rw [if_neg y1, if_neg y1]
      by_cases y2 : 12 + 21 * m + d = 12 + 21 * n + 19
      · rw [if_pos y2, if_pos y2]
      · rw [if_neg y2, if_neg y2]
        exact bo m d q1 q2 q3
  · rw [if_neg c8, if_neg c8, up_a, up_a, up_a, up_a, bo m d q1 q2 q3]
/-- an arrival -/
theorem fD_d {m : Nat} (l : Lim w) (hn : n < w 0) (h8 : w (12 + 21 * n + 2) < 8) (hm : m < w 0) : fDeliv w p n (12 + 21 * m) = w (12 + 21 * m) := by
  have l0 := l.1.1
  have n8 := (l.2.1 n hn).2.1
  unfold fDeliv
  rw [fLearns_k (by omega) (by rw [up_n (by omega), up_n (by omega), up_n (by omega), up_n (by omega), up_n (by omega)]; exact n8) (fun d _ _ => by omega), up_n (by omega), up_n (by omega), up_n (by omega), up_n (by omega), up_n (by omega)]
theorem EE_arr (h : EE v) (hA : InvA v 0 (d + 1) 0) (hp : p < v 2) (hst : v (146 + 7 * p + 4) = 102) : EE (fArrP v p) := by
  obtain ⟨a, b, ⟨c1, c2⟩, k⟩ := h
  have l := hA.1
  have l0 := l.1.1
  have l14 := l.1.2.1
  have hn := l.2.2 p hp
  have hkey := (hA.2.2.1 p hp).2.2.2.1
  have l1 := Lim_arr1 l hp
  have w2 : fArr1 v p 2 = v 2 := fArr1_o (by omega) (by omega)
  have w0 : fArr1 v p 0 = v 0 := fArr1_o (by omega) (by omega)
  have w1 : fArr1 v p 1 = v 1 := fArr1_o (by omega) (by omega)
  have wo : ∀ j, j ≠ 10 → j ≠ 146 + 7 * p + 3 → fArr1 v p j = v j := fun j h1 h2 => fArr1_o h1 h2
  have w10 : fArr1 v p 10 = v 10 + 1 := by unfold fArr1; rw [up_s]
  have w3 : fArr1 v p (146 + 7 * p + 3) = v (146 + 7 * p + 3) + 1 := by unfold fArr1; rw [up_n (by omega), up_s]
  have aN : EN (fArr1 v p) := EN_row (p := p) a w2 (fun q _ e => ⟨wo _ (by omega) (by omega), wo _ (by omega) (by omega), wo _ (by omega) (by omega)⟩) (by rw [wo (146 + 7 * p + 4) (by omega) (by omega), hst]; exact ⟨fun z => absurd z (by decide), fun z => absurd z (by decide)⟩)
  have aF : EF (fArr1 v p) := EF_c b w1 w2 (fun c hc => ⟨wo _ (by omega) (by omega), wo _ (by omega) (by omega)⟩) (fun q _ => ⟨wo _ (by omega) (by omega), wo _ (by omega) (by omega)⟩) (fun q hq => wo _ (by omega) (by have := l.2.2 q hq; omega))
  have aK : EK (fArr1 v p) := EK_c k l w0 (fun n d hn _ _ => wo _ (by omega) (by omega))
  have s1 : ∀ x, cS (fArr1 v p) x = cS v x := fun x => cS_c w2 (fun q _ => wo _ (by omega) (by omega))
  have t6 := wo 6 (by omega) (by omega)
  have t7 := wo 7 (by omega) (by omega)
  have t8 := wo 8 (by omega) (by omega)
  have t9 := wo 9 (by omega) (by omega)
  have st1 := wo (146 + 7 * p + 4) (by omega) (by omega)
  have k1 := wo (146 + 7 * p + 2) (by omega) (by omega)
  have n1 := wo (146 + 7 * p + 1) (by omega) (by omega)
  have i1 := wo (146 + 7 * p) (by omega) (by omega)
  have sc := s1 100
  rw [fArrP_eq]
  generalize fArr1 v p = w at *
  have hpw : p < w 2 := by omega
  have lw14 := l1.1.2.1
  have hnw : v (146 + 7 * p + 1) < w 0 := by omega
  have del : ∀ j y, j = 8 ∨ j = 9 → y = w j + 1 → EE (fCeases (up w j y) p) := by
    intro j y hj hy
    have lu : Lim (up w j y) := Lim_up l1 (by omega)
    have u2 : up w j y 2 = w 2 := up_n (by omega)
    have hpu : p < up w j y 2 := by omega
    have q1 := cS_ceases (x := 100) (v := up w j y) hpu
    rw [up_n (show 146 + 7 * p + 4 ≠ j by omega), if_neg (by omega), cS_c (v := w) u2 (fun q _ => up_n (by omega))] at q1
    refine ⟨EN_ceases (EN_c aN u2 (fun q _ => ⟨up_n (by omega), up_n (by omega), up_n (by omega)⟩)) hpu, EF_ceases (EF_c aF (up_n (by omega)) u2 (fun c hc => ⟨up_n (by omega), up_n (by omega)⟩) (fun q _ => ⟨up_n (by omega), up_n (by omega)⟩) (fun q _ => up_n (by omega))) lu hpu, ⟨?_, ?_⟩, EK_ceases (EK_c aK l1 (up_n (by omega)) (fun n d _ _ _ => up_n (by omega))) lu⟩
    · rw [fC_lo (by decide) (by decide), fC_lo (by decide) (by decide), fC_lo (by decide) (by decide), fC_lo (by decide) (by decide), up_n (show 6 ≠ j by omega), up_n (show 10 ≠ j by omega), up_a, up_a]
      rcases hj with rfl | rfl
      · rw [if_pos rfl, if_neg (by omega)]
        omega
      · rw [if_pos rfl, if_neg (by omega)]
        omega
    · rw [fC_lo (by decide) (by decide), fC_lo (by decide) (by decide), up_n (show 6 ≠ j by omega), up_n (show 7 ≠ j by omega)]
      omega
  by_cases g1 : fLost w p (v (146 + 7 * p + 3) + 1) = false ∧ fKnows w (v (146 + 7 * p + 1)) (w (146 + 7 * p + 2)) = true
  · rw [if_pos g1]
    exact del 8 _ (Or.inl rfl) rfl
  · rw [if_neg g1]
    by_cases g2 : fLost w p (v (146 + 7 * p + 3) + 1) = false ∧ w (12 + 21 * v (146 + 7 * p + 1) + 2) < 8
    · rw [if_pos g2]
      have h8 := g2.2
      have kn : ¬ fKnows w (v (146 + 7 * p + 1)) (w (146 + 7 * p + 2)) = true := fun z => g1 ⟨g2.1, z⟩
      generalize v (146 + 7 * p + 1) = n at *
      have lw0 := l1.1.1
      have n8 := (l1.2.1 n hnw).2.1
      have dl : ∀ j, j < 12 ∨ 138 ≤ j → j ≠ 6 → j ≠ 146 + 7 * p + 4 → fDeliv w p n j = w j := fun j q1 q2 q3 => by rw [fD_lo l1 hpw hnw h8 q1, if_neg q2, if_neg q3]
      have d4 : fDeliv w p n (146 + 7 * p + 4) = 100 := by rw [fD_lo l1 hpw hnw h8 (by omega), if_neg (by omega), if_pos rfl]
      have d6 : fDeliv w p n 6 = w 6 + 1 := by rw [fD_lo l1 hpw hnw h8 (by omega), if_pos rfl]
      have d2 := dl 2 (by omega) (by omega) (by omega)
      have r := cS_row (x := 100) (p := p) (v := w) (w := fDeliv w p n) hpw d2 (fun q e => dl _ (by omega) (by omega) (by omega))
      rw [d4, if_pos rfl, if_neg (by omega)] at r
      refine ⟨EN_row (p := p) aN d2 (fun q _ e => ⟨dl _ (by omega) (by omega) (by omega), dl _ (by omega) (by omega) (by omega), dl _ (by omega) (by omega) (by omega)⟩) ⟨fun z => by rw [d4] at z; exact absurd z (by decide), fun _ => by rw [dl _ (by omega) (by omega) (by omega), w3]; omega⟩, EF_c aF (dl 1 (by omega) (by omega) (by omega)) d2 (fun c hc => ⟨dl _ (by omega) (by omega) (by omega), dl _ (by omega) (by omega) (by omega)⟩) (fun q _ => ⟨dl _ (by omega) (by omega) (by omega), dl _ (by omega) (by omega) (by omega)⟩) (fun q hq => fD_d l1 hnw h8 (l1.2.2 q hq)), ⟨?_, ?_⟩, ?_⟩
      · rw [d6, dl 8 (by omega) (by omega) (by omega), dl 9 (by omega) (by omega) (by omega), dl 10 (by omega) (by omega) (by omega)]
        omega
      · rw [d6, dl 7 (by omega) (by omega) (by omega)]
        omega
      · have bo : ∀ m d, m < w 0 → 11 ≤ d → d < 20 → up (up (up (up (up w (146 + 7 * p + 4) 100) (12 + 21 * n + 3 + w (12 + 21 * n + 2)) (w (146 + 7 * p))) (12 + 21 * n + 2) (w (12 + 21 * n + 2) + 1)) (12 + 21 * n + 20) (w (12 + 21 * n + 20) + 1)) 6 (w 6 + 1) (12 + 21 * m + d) = w (12 + 21 * m + d) := fun m d q1 q2 q3 => by
          rw [up_n (by omega), up_n (by omega), up_n (by omega), up_n (by omega), up_n (by omega)]
        have bl : ∀ j, j = 0 ∨ j = 1 ∨ j = 2 → up (up (up (up (up w (146 + 7 * p + 4) 100) (12 + 21 * n + 3 + w (12 + 21 * n + 2)) (w (146 + 7 * p))) (12 + 21 * n + 2) (w (12 + 21 * n + 2) + 1)) (12 + 21 * n + 20) (w (12 + 21 * n + 20) + 1)) 6 (w 6 + 1) j = w j := fun j q => by
          rw [up_n (by omega), up_n (by omega), up_n (by omega), up_n (by omega), up_n (by omega)]
        refine EK_learns (key := w (146 + 7 * p + 2)) (n := n) aK l1 hnw (by omega) (fKn_no kn) (dl 0 (by omega) (by omega) (by omega)) (fun m d q1 q2 q3 => ?_)
        unfold fDeliv
        exact fLearns_c hnw bo q1 q2 q3
    · rw [if_neg g2]
      by_cases g3 : v (146 + 7 * p + 3) + 1 = 5
      · rw [if_pos g3]
        exact del 9 _ (Or.inr rfl) rfl
      · rw [if_neg g3]
        unfold fNap
        have no : ∀ j, j ≠ 146 + 7 * p + 4 → j ≠ 146 + 7 * p + 5 → j ≠ 146 + 7 * p + 6 → up (up (up w (146 + 7 * p + 4) 110) (146 + 7 * p + 5) (2 ^ (v (146 + 7 * p + 3) + 1))) (146 + 7 * p + 6) 1 j = w j := fun j q1 q2 q3 => by rw [up_n q3, up_n q2, up_n q1]
        have n4 : up (up (up w (146 + 7 * p + 4) 110) (146 + 7 * p + 5) (2 ^ (v (146 + 7 * p + 3) + 1))) (146 + 7 * p + 6) 1 (146 + 7 * p + 4) = 110 := by rw [up_n (by omega), up_n (by omega), up_s]
        have n5 : up (up (up w (146 + 7 * p + 4) 110) (146 + 7 * p + 5) (2 ^ (v (146 + 7 * p + 3) + 1))) (146 + 7 * p + 6) 1 (146 + 7 * p + 5) = 2 ^ (v (146 + 7 * p + 3) + 1) := by rw [up_n (by omega), up_s]
        generalize up (up (up w (146 + 7 * p + 4) 110) (146 + 7 * p + 5) (2 ^ (v (146 + 7 * p + 3) + 1))) (146 + 7 * p + 6) 1 = z at *
        have z2 := no 2 (by omega) (by omega) (by omega)
        have r := cS_row (x := 100) (p := p) (v := w) (w := z) hpw z2 (fun q e => no _ (by omega) (by omega) (by omega))
        rw [n4, if_neg (by omega), if_neg (by omega)] at r
        refine ⟨EN_row (p := p) aN z2 (fun q _ e => ⟨no _ (by omega) (by omega) (by omega), no _ (by omega) (by omega) (by omega), no _ (by omega) (by omega) (by omega)⟩) ⟨fun _ => ?_, fun z => by rw [n4] at z; exact absurd z (by decide)⟩, EF_c aF (no 1 (by omega) (by omega) (by omega)) z2 (fun c hc => ⟨no _ (by omega) (by omega) (by omega), no _ (by omega) (by omega) (by omega)⟩) (fun q _ => ⟨no _ (by omega) (by omega) (by omega), no _ (by omega) (by omega) (by omega)⟩) (fun q hq => by have := l1.2.2 q hq; exact no _ (by omega) (by omega) (by omega)), ⟨?_, ?_⟩, EK_c aK l1 (no 0 (by omega) (by omega) (by omega)) (fun n d _ _ _ => no _ (by omega) (by omega) (by omega))⟩
        · rw [n5, no (146 + 7 * p + 3) (by omega) (by omega) (by omega), w3]
          exact ⟨by omega, Nat.le_refl _⟩
        · rw [no 6 (by omega) (by omega) (by omega), no 8 (by omega) (by omega) (by omega), no 9 (by omega) (by omega) (by omega), no 10 (by omega) (by omega) (by omega)]
          omega
        · rw [no 6 (by omega) (by omega) (by omega), no 7 (by omega) (by omega) (by omega)]
          omega
end EXTRA1

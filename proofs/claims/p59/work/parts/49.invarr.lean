section INVA
variable {v w : Nat → Nat} {p n i d e t : Nat}
theorem fLearns_k {key j : Nat} (hn : n < 6) (h8 : v (12 + 21 * n + 11) ≤ 8) (h : ∀ d, 11 ≤ d → d < 20 → j ≠ 12 + 21 * n + d) : fLearns v n key j = v j := by
  have h9 : j < 12 + 21 * n + 11 ∨ 12 + 21 * n + 20 ≤ j := by
    by_cases c : j < 12 + 21 * n + 11 ∨ 12 + 21 * n + 20 ≤ j
    · exact c
    · exact absurd (show j = 12 + 21 * n + (j - (12 + 21 * n)) by omega) (h _ (by omega) (by omega))
  unfold fLearns
  by_cases c : v (12 + 21 * n + 11) = 8
  · rw [if_pos c, if_neg (by omega), if_neg (by omega)]
  · rw [if_neg c, up_n (by omega), up_n (by omega)]
/-- a nest's size, an inbox's entry, after a delivery -/
theorem fD_sz {m : Nat} (l : Lim w) (hp : p < w 2) (hn : n < w 0) (h8 : w (12 + 21 * n + 2) < 8) (hm : m < w 0) : fDeliv w p n (12 + 21 * m + 2) = w (12 + 21 * m + 2) + (if m = n then 1 else 0) := by
  have l0 := l.1.1
  have k8 := ((Lim_Inb (id := w (146 + 7 * p)) l hn h8).2.1 n (by rw [fInb_o (fun d _ => by omega) h8]; exact hn)).2.1
  rw [fD_mid l hp hn h8 (by omega) (by omega), fLearns_k (by omega) k8 (fun d _ _ => by omega)]
  by_cases c : m = n
  · subst c
    rw [if_pos rfl]
    unfold fInb
    rw [up_n (by omega), up_s]
  · rw [if_neg c, fInb_o (fun d _ => by omega) h8]
    rfl
theorem fD_in {m k : Nat} (l : Lim w) (hp : p < w 2) (hn : n < w 0) (h8 : w (12 + 21 * n + 2) < 8) (hm : m < w 0) (hk : k < 8) : fDeliv w p n (12 + 21 * m + 3 + k) = if m = n ∧ k = w (12 + 21 * n + 2) then w (146 + 7 * p) else w (12 + 21 * m + 3 + k) := by
  have l0 := l.1.1
  have k8 := ((Lim_Inb (id := w (146 + 7 * p)) l hn h8).2.1 n (by rw [fInb_o (fun d _ => by omega) h8]; exact hn)).2.1
  rw [fD_mid l hp hn h8 (by omega) (by omega), fLearns_k (by omega) k8 (fun d _ _ => by omega)]
  unfold fInb
  rw [up_n (by omega), up_n (by omega), up_a]
  by_cases c : m = n ∧ k = w (12 + 21 * n + 2)
  · rw [if_pos c, if_pos (by rw [c.1, c.2])]
  · rw [if_neg c, if_neg (by omega)]
theorem Lim_deliv (l : Lim w) (hp : p < w 2) (hn : n < w 0) (h8 : w (12 + 21 * n + 2) < 8) : Lim (fDeliv w p n) := by
  have l0 := l.1.1
  have lo := fun j (z : j < 12 ∨ 138 ≤ j) => fD_lo (j := j) l hp hn h8 z
  have L := Lim_learn (key := w (146 + 7 * p + 2)) (Lim_Inb (id := w (146 + 7 * p)) l hn h8) (by rw [fInb_o (fun d _ => by omega) h8]; exact hn)
  have k8 := (Lim_Inb (id := w (146 + 7 * p)) l hn h8).2.1 n (by rw [fInb_o (fun d _ => by omega) h8]; exact hn)
  have z0 : fLearns (fInb w n (w (146 + 7 * p))) n (w (146 + 7 * p + 2)) 0 = w 0 := by rw [fLearns_o (by omega) k8.2.1 (by omega), fInb_o (fun d _ => by omega) h8]
  refine ⟨?_, fun m hm => ?_, fun q hq => ?_⟩
  · rw [lo 0 (by omega), if_neg (by omega), if_neg (by omega), lo 1 (by omega), if_neg (by omega), if_neg (by omega), lo 2 (by omega), if_neg (by omega), if_neg (by omega)]
    exact l.1
  · rw [lo 0 (by omega), if_neg (by omega), if_neg (by omega)] at hm
    rw [fD_mid l hp hn h8 (by omega) (by omega), fD_mid l hp hn h8 (by omega) (by omega), fD_mid l hp hn h8 (by omega) (by omega), fD_mid l hp hn h8 (by omega) (by omega)]
    exact L.2.1 m (by rw [z0]; exact hm)
  · rw [lo 2 (by omega), if_neg (by omega), if_neg (by omega)] at hq
    rw [lo 0 (by omega), if_neg (by omega), if_neg (by omega), lo _ (by omega), if_neg (by omega), if_neg (by omega)]
    exact l.2.2 q hq
/-- an arrival keeps what holds -/
theorem Inv_arr (h : InvA v 0 (d + 1) 0) (ht : v 2 + tot v = v 3) (hp : p < v 2) (hst : v (146 + 7 * p + 4) = 102) (nc : ∀ c, c < v 1 → v (138 + 2 * c) ≠ v (146 + 7 * p) + 1) : InvA (fArrP v p) 0 d 0 ∧ fArrP v p 2 + tot (fArrP v p) = fArrP v p 3 := by
  have hA := h
  obtain ⟨l, a1, a2, a3, a4, a5, a6⟩ := h
  have l0 := l.1
  have n102 : ∀ q, q < v 2 → v (146 + 7 * q + 4) = 100 → q ≠ p := fun q _ z y => by
    rw [y, hst] at z
    exact absurd z (by decide)
  have ni : ∀ m k, m < v 0 → k < v (12 + 21 * m + 2) → v (12 + 21 * m + 3 + k) ≠ v (146 + 7 * p) := fun m k hm hk z => by
    obtain ⟨q, hq, e1, e2, e3⟩ := a4.1 m k hm hk
    exact n102 q hq e2 (ids_inj a1 hq hp (e1.trans z))
  have gone : ∀ k x, (k = 8 ∨ k = 9) → x = v k + 1 → InvA (fCeases (up (fArr1 v p) k x) p) 0 d 0 ∧ fCeases (up (fArr1 v p) k x) p 2 + tot (fCeases (up (fArr1 v p) k x) p) = fCeases (up (fArr1 v p) k x) p 3 := fun k x hk hx => by
    have e1 : fCeases (up (fArr1 v p) k x) p = up (up (fCeases v p) 10 (v 10 + 1)) k x := by
      rw [fC_up (by omega) (by omega) (by rw [fArr1_o (by omega) (by omega)]; exact hp)]
      unfold fArr1
      rw [fC_up (by omega) (by omega) (by rw [up_n (by omega)]; exact hp), fC_ig hp (fun j hj => up_n (by omega))]
    rw [e1]
    refine ⟨InvA_up (InvA_up (InvA_ceases hA hp (Or.inl rfl) nc ni (by rw [hst]; rfl) (by rw [hst]; rfl)) (by omega)) (by omega), ?_⟩
    unfold tot at ht ⊢
    have u : ∀ j, j ≠ 10 → j ≠ k → up (up (fCeases v p) 10 (v 10 + 1)) k x j = fCeases v p j := fun j y z => by rw [up_n z, up_n y]
    have c2 : fCeases v p 2 = v 2 - 1 := fC_2
    have cl : ∀ j, j < 146 → j ≠ 2 → fCeases v p j = v j := fun j y z => fC_lo y z
    rw [u 2 (by omega) (by omega), c2, u 3 (by omega) (by omega), cl 3 (by omega) (by omega), u 7 (by omega) (by omega), cl 7 (by omega) (by omega), u 11 (by omega) (by omega), cl 11 (by omega) (by omega)]
    rcases hk with rfl | rfl
    · rw [up_s, u 9 (by omega) (by omega), cl 9 (by omega) (by omega)]
      omega
    · rw [up_s, u 8 (by omega) (by omega), cl 8 (by omega) (by omega)]
      omega
  have b8 : fArr1 v p 8 = v 8 := fArr1_o (by omega) (by omega)
  have b9 : fArr1 v p 9 = v 9 := fArr1_o (by omega) (by omega)
  have hw : ∀ j, j ≠ 10 → j ≠ 146 + 7 * p + 3 → fArr1 v p j = v j := fun j y z => fArr1_o y z
  have hwt : fArr1 v p (146 + 7 * p + 3) = v (146 + 7 * p + 3) + 1 := by
    unfold fArr1
    rw [up_n (by omega), up_s]
  have l1 := Lim_arr1 l hp
  have t4 := (a2 p hp).2.1 (by omega)
  have hn := l.2.2 p hp
  unfold fArrP
  dsimp only
  by_cases c1 : fLost (fArr1 v p) p (v (146 + 7 * p + 3) + 1) = false ∧ fKnows (fArr1 v p) (v (146 + 7 * p + 1)) (fArr1 v p (146 + 7 * p + 2)) = true
  · rw [if_pos c1]
    exact gone 8 _ (Or.inl rfl) (by rw [b8])
  · rw [if_neg c1]
    by_cases c2 : fLost (fArr1 v p) p (v (146 + 7 * p + 3) + 1) = false ∧ fArr1 v p (12 + 21 * v (146 + 7 * p + 1) + 2) < 8
    · rw [if_pos c2]
      have h8 := c2.2
      generalize hnn : v (146 + 7 * p + 1) = n at *
      generalize hww : fArr1 v p = w at *
      have w2 : w 2 = v 2 := hw 2 (by omega) (by omega)
      have w0 : w 0 = v 0 := hw 0 (by omega) (by omega)
      have w1 : w 1 = v 1 := hw 1 (by omega) (by omega)
      have hp' : p < w 2 := by omega
      have hn' : n < w 0 := by omega
      have lo := fun j (z : j < 12 ∨ 138 ≤ j) => fD_lo (j := j) l1 hp' hn' h8 z
      have lo2 : ∀ j, (j < 12 ∨ 138 ≤ j) → j ≠ 6 → j ≠ 10 → j ≠ 146 + 7 * p + 4 → j ≠ 146 + 7 * p + 3 → fDeliv w p n j = v j := fun j z y x a b => by
        rw [lo j z, if_neg y, if_neg a]
        exact hw j x b
      have D2 := lo2 2 (by omega) (by omega) (by omega) (by omega) (by omega)
      have D3 := lo2 3 (by omega) (by omega) (by omega) (by omega) (by omega)
      have D1 := lo2 1 (by omega) (by omega) (by omega) (by omega) (by omega)
      have D0 := lo2 0 (by omega) (by omega) (by omega) (by omega) (by omega)
      have Did : ∀ q, fDeliv w p n (146 + 7 * q) = v (146 + 7 * q) := fun q => lo2 _ (by omega) (by omega) (by omega) (by omega) (by omega)
      have Dat : ∀ q, fDeliv w p n (146 + 7 * q + 1) = v (146 + 7 * q + 1) := fun q => lo2 _ (by omega) (by omega) (by omega) (by omega) (by omega)
      have Dkey : ∀ q, fDeliv w p n (146 + 7 * q + 2) = v (146 + 7 * q + 2) := fun q => lo2 _ (by omega) (by omega) (by omega) (by omega) (by omega)
      have Dnap : ∀ q, fDeliv w p n (146 + 7 * q + 5) = v (146 + 7 * q + 5) := fun q => lo2 _ (by omega) (by omega) (by omega) (by omega) (by omega)
      have Dfr : ∀ q, fDeliv w p n (146 + 7 * q + 6) = v (146 + 7 * q + 6) := fun q => lo2 _ (by omega) (by omega) (by omega) (by omega) (by omega)
      have Dst : ∀ q, q ≠ p → fDeliv w p n (146 + 7 * q + 4) = v (146 + 7 * q + 4) := fun q hq => lo2 _ (by omega) (by omega) (by omega) (by omega) (by omega)
      have Dtr : ∀ q, q ≠ p → fDeliv w p n (146 + 7 * q + 3) = v (146 + 7 * q + 3) := fun q hq => lo2 _ (by omega) (by omega) (by omega) (by omega) (by omega)
      have Dsp : fDeliv w p n (146 + 7 * p + 4) = 100 := by rw [lo _ (by omega), if_neg (by omega), if_pos rfl]
      have Dtp : fDeliv w p n (146 + 7 * p + 3) = v (146 + 7 * p + 3) + 1 := by
        rw [lo _ (by omega), if_neg (by omega), if_neg (by omega)]
        exact hwt
      have Dcr : ∀ c, c < v 1 → fDeliv w p n (138 + 2 * c) = v (138 + 2 * c) ∧ fDeliv w p n (138 + 2 * c + 1) = v (138 + 2 * c + 1) := fun c hc => ⟨lo2 _ (by omega) (by omega) (by omega) (by omega) (by omega), lo2 _ (by omega) (by omega) (by omega) (by omega) (by omega)⟩
      have wsz : ∀ m, m < v 0 → w (12 + 21 * m + 2) = v (12 + 21 * m + 2) := fun m hm => hw _ (by omega) (by omega)
      have Dsz : ∀ m, m < v 0 → fDeliv w p n (12 + 21 * m + 2) = v (12 + 21 * m + 2) + (if m = n then 1 else 0) := fun m hm => by rw [fD_sz l1 hp' hn' h8 (by omega), wsz m hm]
      have Din : ∀ m k, m < v 0 → k < 8 → fDeliv w p n (12 + 21 * m + 3 + k) = if m = n ∧ k = v (12 + 21 * n + 2) then v (146 + 7 * p) else v (12 + 21 * m + 3 + k) := fun m k hm hk => by
        rw [fD_in l1 hp' hn' h8 (by omega) hk, wsz n (by omega), hw (146 + 7 * p) (by omega) (by omega), hw (12 + 21 * m + 3 + k) (by omega) (by omega)]
      have s8 : ∀ m, m < v 0 → v (12 + 21 * m + 2) ≤ 8 := fun m hm => (l.2.1 m hm).1
      rw [wsz n (by omega)] at h8
      have LD := Lim_deliv l1 hp' hn' (by rw [wsz n (by omega)]; exact h8)
      refine ⟨⟨LD, ⟨fun q hq => ?_, fun q r hqr hr => ?_⟩, fun q hq => ?_, ⟨fun c hc => ?_, fun c e hce he => ?_⟩, ⟨fun m k hm hk => ?_, fun m k j hm hkj hj => ?_⟩, ?_, ?_⟩, ?_⟩
      · rw [D2] at hq
        rw [Did, D3]
        exact a1.1 q hq
      · rw [D2] at hr
        rw [Did, Did]
        exact a1.2 q r hqr hr
      · rw [D2] at hq
        have := a2 q hq
        rw [Dkey, Dnap, Dfr]
        by_cases c : q = p
        · subst c
          rw [Dsp, Dtp]
          have f0 := this.2.2.2.2.2.2.1 (by omega)
          omega
        · rw [Dst q c, Dtr q c]
          exact this
      · rw [D1] at hc
        rw [(Dcr c hc).1, (Dcr c hc).2]
        intro z
        obtain ⟨r1, q, hq, e1, e2⟩ := a3.1 c hc z
        have qp : q ≠ p := fun y => nc c hc (by rw [← y]; exact e1.symm)
        exact ⟨r1, q, by rw [D2]; exact hq, by rw [Did]; exact e1, by rw [Dst q qp]; exact e2⟩
      · rw [D1] at he
        rw [(Dcr c (by omega)).1, (Dcr e he).1]
        exact a3.2 c e hce he
      · rw [D0] at hm
        rw [Dsz m hm] at hk
        have := s8 m hm
        have k8 : k < 8 := by
          by_cases y : m = n
          · subst y
            rw [if_pos rfl] at hk
            omega
          · rw [if_neg y] at hk
            omega
        rw [Din m k hm k8]
        by_cases c : m = n ∧ k = v (12 + 21 * n + 2)
        · rw [if_pos c]
          exact ⟨p, by rw [D2]; exact hp, Did p, Dsp, by rw [Dat, hnn]; exact c.1.symm⟩
        · rw [if_neg c]
          obtain ⟨q, hq, e1, e2, e3⟩ := a4.1 m k hm (by
            by_cases y : m = n
            · subst y
              rw [if_pos rfl] at hk
              omega
            · rw [if_neg y] at hk
              omega)
          exact ⟨q, by rw [D2]; exact hq, by rw [Did]; exact e1, by rw [Dst q (n102 q hq e2)]; exact e2, by rw [Dat]; exact e3⟩
      · rw [D0] at hm
        rw [Dsz m hm] at hj
        have := s8 m hm
        by_cases y : m = n
        · subst y
          rw [if_pos rfl] at hj
          rw [Din m k hm (by omega), Din m j hm (by omega), if_neg (by omega)]
          by_cases c : m = m ∧ j = v (12 + 21 * m + 2)
          · rw [if_pos c]
            exact ni m k hm (by omega)
          · rw [if_neg c]
            exact a4.2 m k j hm hkj (by omega)
        · rw [if_neg y] at hj
          rw [Din m k hm (by omega), Din m j hm (by omega), if_neg (fun z => y z.1), if_neg (fun z => y z.1)]
          exact a4.2 m k j hm hkj (by omega)
      · have q1 := cS_row (x := 102) hp D2 Dst
        rw [hst, Dsp, if_pos rfl, if_neg (by decide)] at q1
        have ec : cC (fDeliv w p n) = cC v := by
          unfold cC
          rw [D1]
          exact cnt_c _ (fun k hk => by rw [(Dcr k hk).1])
        rw [ec]
        omega
      · have q1 := cS_row (x := 100) hp D2 Dst
        rw [hst, Dsp, if_pos rfl, if_neg (by decide)] at q1
        have es : sN (fDeliv w p n) = sN v + 1 := by
          unfold sN
          rw [D0]
          have := su_1 (f := fun m => v (12 + 21 * m + 2)) (g := fun m => fDeliv w p n (12 + 21 * m + 2)) (i := n) (x := v (12 + 21 * n + 2)) (y := v (12 + 21 * n + 2) + 1) rfl (by rw [Dsz n (by omega), if_pos rfl]) (v 0) (by omega) (fun k hk hkn => by rw [Dsz k hk, if_neg hkn]; rfl)
          omega
        rw [es]
        omega
      · unfold tot at ht ⊢
        rw [D2, D3, lo2 7 (by omega) (by omega) (by omega) (by omega) (by omega), lo2 8 (by omega) (by omega) (by omega) (by omega) (by omega), lo2 9 (by omega) (by omega) (by omega) (by omega) (by omega), lo2 11 (by omega) (by omega) (by omega) (by omega) (by omega)]
        exact ht
    · rw [if_neg c2]
      by_cases c3 : v (146 + 7 * p + 3) + 1 = 5
      · rw [if_pos c3]
        exact gone 9 _ (Or.inr rfl) (by rw [b9])
      · rw [if_neg c3]
        generalize hww : fArr1 v p = w at *
        have No : ∀ j, j ≠ 10 → (j < 146 + 7 * p + 3 ∨ 146 + 7 * p + 7 ≤ j) → fNap w p (v (146 + 7 * p + 3) + 1) j = v j := fun j y z => by
          unfold fNap
          rw [up_n (by omega), up_n (by omega), up_n (by omega)]
          exact hw j y (by omega)
        have Ns : fNap w p (v (146 + 7 * p + 3) + 1) (146 + 7 * p + 4) = 110 := by
          unfold fNap
          rw [up_n (by omega), up_n (by omega), up_s]
        have N5 : fNap w p (v (146 + 7 * p + 3) + 1) (146 + 7 * p + 5) = 2 ^ (v (146 + 7 * p + 3) + 1) := by
          unfold fNap
          rw [up_n (by omega), up_s]
        have N6 : fNap w p (v (146 + 7 * p + 3) + 1) (146 + 7 * p + 6) = 1 := by
          unfold fNap
          rw [up_s]
        have N3 : fNap w p (v (146 + 7 * p + 3) + 1) (146 + 7 * p + 3) = v (146 + 7 * p + 3) + 1 := by
          unfold fNap
          rw [up_n (by omega), up_n (by omega), up_n (by omega)]
          exact hwt
        have LN : Lim (fNap w p (v (146 + 7 * p + 3) + 1)) := Lim_upM (Lim_upM (Lim_upM l1 (by rw [hw 2 (by omega) (by omega)]; exact hp) (by decide)) (by rw [up_n (by omega), hw 2 (by omega) (by omega)]; exact hp) (by decide)) (by rw [up_n (by omega), up_n (by omega), hw 2 (by omega) (by omega)]; exact hp) (by decide)
        have p2 : 1 ≤ 2 ^ (v (146 + 7 * p + 3) + 1) := Nat.one_le_two_pow
        generalize fNap w p (v (146 + 7 * p + 3) + 1) = u at *
        have D2 := No 2 (by omega) (by omega)
        have Nst : ∀ q, q ≠ p → u (146 + 7 * q + 4) = v (146 + 7 * q + 4) := fun q hq => No _ (by omega) (by omega)
        refine ⟨⟨LN, ⟨fun q hq => ?_, fun q r hqr hr => ?_⟩, fun q hq => ?_, ⟨fun c hc => ?_, fun c e hce he => ?_⟩, ⟨fun m k hm hk => ?_, fun m k j hm hkj hj => ?_⟩, ?_, ?_⟩, ?_⟩
        · rw [D2] at hq
          rw [No _ (by omega) (by omega), No 3 (by omega) (by omega)]
          exact a1.1 q hq
        · rw [D2] at hr
          rw [No _ (by omega) (by omega), No _ (by omega) (by omega)]
          exact a1.2 q r hqr hr
        · rw [D2] at hq
          have := a2 q hq
          by_cases c : q = p
          · subst c
            rw [Ns, N5, N6, N3, No (146 + 7 * q + 2) (by omega) (by omega)]
            omega
          · rw [No _ (by omega) (by omega), No _ (by omega) (by omega), No _ (by omega) (by omega), No _ (by omega) (by omega), No _ (by omega) (by omega)]
            exact this
        · rw [No 1 (by omega) (by omega)] at hc
          rw [No _ (by omega) (by omega), No _ (by omega) (by omega)]
          intro z
          obtain ⟨r1, q, hq, e1, e2⟩ := a3.1 c hc z
          have qp : q ≠ p := fun y => nc c hc (by rw [← y]; exact e1.symm)
          exact ⟨r1, q, by rw [D2]; exact hq, by rw [No _ (by omega) (by omega)]; exact e1, by rw [Nst q qp]; exact e2⟩
        · rw [No 1 (by omega) (by omega)] at he
          rw [No _ (by omega) (by omega), No _ (by omega) (by omega)]
          exact a3.2 c e hce he
        · rw [No 0 (by omega) (by omega)] at hm
          have := (l.2.1 m hm).1
          rw [No _ (by omega) (by omega)] at hk
          rw [No (12 + 21 * m + 3 + k) (by omega) (by omega)]
          obtain ⟨q, hq, e1, e2, e3⟩ := a4.1 m k hm hk
          exact ⟨q, by rw [D2]; exact hq, by rw [No _ (by omega) (by omega)]; exact e1, by rw [Nst q (n102 q hq e2)]; exact e2, by rw [No _ (by omega) (by omega)]; exact e3⟩
        · rw [No 0 (by omega) (by omega)] at hm
          have := (l.2.1 m hm).1
          rw [No _ (by omega) (by omega)] at hj
          rw [No _ (by omega) (by omega), No _ (by omega) (by omega)]
          exact a4.2 m k j hm hkj hj
        · have q1 := cS_row (x := 102) hp D2 Nst
          rw [hst, Ns, if_pos rfl, if_neg (by decide)] at q1
          have ec : cC u = cC v := by
            unfold cC
            rw [No 1 (by omega) (by omega)]
            exact cnt_c _ (fun k hk => by rw [No _ (by omega) (by omega)])
          rw [ec]
          omega
        · have q1 := cS_row (x := 100) hp D2 Nst
          rw [hst, Ns, if_neg (by decide), if_neg (by decide)] at q1
          have es : sN u = sN v := by
            unfold sN
            rw [No 0 (by omega) (by omega)]
            exact su_c _ (fun k hk => by rw [No _ (by omega) (by omega)])
          rw [es]
          omega
        · unfold tot at ht ⊢
          rw [D2, No 3 (by omega) (by omega), No 7 (by omega) (by omega), No 8 (by omega) (by omega), No 9 (by omega) (by omega), No 11 (by omega) (by omega)]
          exact ht
end INVA

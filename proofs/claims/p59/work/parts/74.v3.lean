/-! HOW MANY MESSAGES THERE WERE: only a post adds one -/
section V3
variable {v : Nat → Nat} {p n i d c x y k id : Nat}
theorem v3_arr1 : fArr1 v p 3 = v 3 := fArr1_o (by omega) (by omega)
theorem v3_c : fCeases v p 3 = v 3 := fC_lo (by omega) (by omega)
theorem v3_l {key : Nat} : fLearns v n key 3 = v 3 := by
  unfold fLearns
  split
  · show (if _ then _ else _) = _
    rw [if_neg (by omega), if_neg (by omega)]
  · rw [up_n (by omega), up_n (by omega)]
theorem v3_arrP : fArrP v p 3 = v 3 := by
  unfold fArrP
  split
  · rw [v3_c, up_n (by omega), v3_arr1]
  · split
    · unfold fDeliv
      rw [v3_l, up_n (by omega), up_n (by omega), up_n (by omega), up_n (by omega), up_n (by omega), v3_arr1]
    · split
      · rw [v3_c, up_n (by omega), v3_arr1]
      · unfold fNap
        rw [up_n (by omega), up_n (by omega), up_n (by omega), v3_arr1]
theorem v3_land : fLand c v 3 = v 3 := by
  unfold fLand fArrives
  split
  · rfl
  · split
    · rw [up_n (by omega)]
    · rw [v3_arrP, up_n (by omega), up_n (by omega)]
theorem v3_wake : fWake p v 3 = v 3 := by
  unfold fWake
  split
  · split
    · rw [up_n (by omega)]
    · split
      · rw [up_n (by omega), up_n (by omega)]
      · rw [up_n (by omega)]
  · rfl
theorem v3_send : fSend c v 3 = v 3 := by
  unfold fSend fSendP
  split
  · split
    · rw [up_n (by omega), up_n (by omega), up_n (by omega)]
    · rfl
  · rfl
theorem v3_itr {f : Nat → (Nat → Nat) → Nat → Nat} (h : ∀ i v, f i v 3 = v 3) : ∀ d i v, itr f d i v 3 = v 3
  | 0, _, _ => rfl
  | d + 1, i, v => by
    show itr f d (i + 1) (f i v) 3 = v 3
    rw [v3_itr h d, h]
theorem v3_minute : fMinute v 3 = v 3 := by
  unfold fMinute
  rw [v3_itr (fun _ _ => v3_send), v3_itr (fun _ _ => v3_wake), v3_itr (fun _ _ => v3_land)]
  exact up_n (by omega)
theorem v3_itm : ∀ k v, itm k v 3 = v 3
  | 0, _ => rfl
  | k + 1, v => by
    show itm k (fMinute v) 3 = v 3
    rw [v3_itm k, v3_minute]
theorem v6_arrP : v 6 ≤ fArrP v p 6 := by
  have e : fArr1 v p 6 = v 6 := fArr1_o (by omega) (by omega)
  unfold fArrP
  split
  · rw [fC_lo (by omega) (by omega), up_n (by omega), e]
    exact Nat.le_refl _
  · split
    · unfold fDeliv fLearns
      split
      · show _ ≤ (if _ then _ else _)
        rw [if_neg (by omega), if_neg (by omega), up_s, e]
        omega
      · rw [up_n (by omega), up_n (by omega), up_s, e]
        omega
    · split
      · rw [fC_lo (by omega) (by omega), up_n (by omega), e]
        exact Nat.le_refl _
      · unfold fNap
        rw [up_n (by omega), up_n (by omega), up_n (by omega), e]
        exact Nat.le_refl _
theorem v6_land : v 6 ≤ fLand c v 6 := by
  unfold fLand fArrives
  split
  · exact Nat.le_refl _
  · split
    · rw [up_n (by omega)]
      exact Nat.le_refl _
    · refine Nat.le_trans ?_ v6_arrP
      rw [up_n (by omega), up_n (by omega)]
      exact Nat.le_refl _
theorem v6_wake : fWake p v 6 = v 6 := by
  unfold fWake
  split
  · split
    · rw [up_n (by omega)]
    · split
      · rw [up_n (by omega), up_n (by omega)]
      · rw [up_n (by omega)]
  · rfl
theorem v6_send : fSend c v 6 = v 6 := by
  unfold fSend fSendP
  split
  · split
    · rw [up_n (by omega), up_n (by omega), up_n (by omega)]
    · rfl
  · rfl
theorem v6_itr {f : Nat → (Nat → Nat) → Nat → Nat} (h : ∀ i v, v 6 ≤ f i v 6) : ∀ d i v, v 6 ≤ itr f d i v 6
  | 0, _, _ => Nat.le_refl _
  | d + 1, i, v => Nat.le_trans (h i v) (v6_itr h d (i + 1) (f i v))
theorem v6_minute : v 6 ≤ fMinute v 6 := by
  unfold fMinute
  refine Nat.le_trans ?_ (v6_itr (fun _ _ => Nat.le_of_eq v6_send.symm) _ _ _)
  refine Nat.le_trans ?_ (v6_itr (fun _ _ => Nat.le_of_eq v6_wake.symm) _ _ _)
  refine Nat.le_trans ?_ (v6_itr (fun _ _ => v6_land) _ _ _)
  exact Nat.le_of_eq (up_n (by omega)).symm
theorem v6_itm : ∀ k v, v 6 ≤ itm k v 6
  | 0, _ => Nat.le_refl _
  | k + 1, v => Nat.le_trans v6_minute (v6_itm k (fMinute v))
theorem CrZ_c {w : Nat → Nat} (h : CrZ v) (h1 : w 1 = v 1) (l1 : v 1 ≤ 4) (hv : ∀ j, 138 ≤ j → j < 146 → w j = v j) : CrZ w := fun c hc z => by
  rw [h1] at hc
  rw [hv _ (by omega) (by omega)] at z
  rw [hv _ (by omega) (by omega)]
  exact h c hc z
theorem fArrP_cr (l : Lim v) (hp : p < v 2) {j : Nat} (hj : 138 ≤ j ∧ j < 146) : fArrP v p j = v j := by
  have l0 := l.1
  have hn := l.2.2 p hp
  have l1 := Lim_arr1 l hp
  have w2 : fArr1 v p 2 = v 2 := fArr1_o (by omega) (by omega)
  have w0 : fArr1 v p 0 = v 0 := fArr1_o (by omega) (by omega)
  unfold fArrP
  split
  · rw [fC_lo (by omega) (by omega), up_n (by omega), fArr1_o (by omega) (by omega)]
  · split
    · rename_i h1 h2
      rw [fD_lo l1 (by omega) (by omega) h2.2 (by omega), if_neg (by omega), if_neg (by omega), fArr1_o (by omega) (by omega)]
    · split
      · rw [fC_lo (by omega) (by omega), up_n (by omega), fArr1_o (by omega) (by omega)]
      · unfold fNap
        rw [up_n (by omega), up_n (by omega), up_n (by omega), fArr1_o (by omega) (by omega)]
theorem CrZ_land {b : Nat} (h : J b 0 v) (hb : 110 ≤ b) (hb2 : b < 2 ^ 31) (hz : CrZ v) (hc : c < v 1) : CrZ (fLand c v) := by
  have e1 := (J_land h hb hb2 hc).2
  have l0 := h.1.1.1
  intro d hd z
  rw [e1] at hd
  unfold fLand at z ⊢
  by_cases e0 : v (138 + 2 * c) = 0
  · rw [if_pos e0] at z ⊢
    exact hz d hd z
  · rw [if_neg e0] at z ⊢
    obtain ⟨q1, q2, q3, q4, q5⟩ := carried h hb2 hc e0
    by_cases r : 1 < v (138 + 2 * c + 1)
    · rw [if_pos r] at z ⊢
      rw [up_n (by omega)] at z
      by_cases y : d = c
      · subst y
        exact absurd z e0
      · rw [up_n (by omega)]
        exact hz d hd z
    · rw [if_neg r] at z ⊢
      unfold fArrives at z ⊢
      have vp : fPl (up (up v (138 + 2 * c + 1) (v (138 + 2 * c + 1) - 1)) (138 + 2 * c) 0) (nI (v (138 + 2 * c) - 1)) = fPl v (nI (v (138 + 2 * c) - 1)) := fPl_c (by rw [up_n (by omega), up_n (by omega)]) (fun q _ => by rw [up_n (by omega), up_n (by omega)])
      rw [vp] at z ⊢
      have lu : Lim (up (up v (138 + 2 * c + 1) (v (138 + 2 * c + 1) - 1)) (138 + 2 * c) 0) := Lim_up (Lim_up h.1.1 (by omega)) (by omega)
      have hp : fPl v (nI (v (138 + 2 * c) - 1)) < up (up v (138 + 2 * c + 1) (v (138 + 2 * c + 1) - 1)) (138 + 2 * c) 0 2 := by rw [up_n (by omega), up_n (by omega)]; exact q2
      rw [fArrP_cr lu hp (by omega)] at z
      rw [fArrP_cr lu hp (by omega)]
      by_cases y : d = c
      · subst y
        rw [up_n (by omega), up_s]
        omega
      · rw [up_n (by omega), up_n (by omega)] at z
        rw [up_n (by omega), up_n (by omega)]
        exact hz d hd z
theorem fWake_lo {j : Nat} (hj : j < 146) : fWake p v j = v j := by
  unfold fWake
  split
  · split
    · rw [up_n (by omega)]
    · split
      · rw [up_n (by omega), up_n (by omega)]
      · rw [up_n (by omega)]
  · rfl
theorem CrZ_send {b : Nat} (h : J b 16 v) (hb : 119 ≤ b) (hz : CrZ v) (hc : c < v 1) : CrZ (fSend c v) := by
  have e1 := (J_send h hc hb).2
  have l0 := h.1.1.1
  intro d hd z
  rw [e1] at hd
  unfold fSend fSendP at z ⊢
  by_cases e0 : v (138 + 2 * c) = 0
  · rw [if_pos e0] at z ⊢
    by_cases hw : fWaiting v 0 < v 2
    · rw [if_pos hw] at z ⊢
      by_cases y : d = c
      · subst y
        rw [up_n (by omega), up_s] at z
        omega
      · rw [up_n (by omega), up_n (by omega), up_n (by omega)] at z
        rw [up_n (by omega), up_n (by omega), up_n (by omega)]
        exact hz d hd z
    · rw [if_neg hw] at z ⊢
      exact hz d hd z
  · rw [if_neg e0] at z ⊢
    exact hz d hd z
theorem CrZ_minute {b : Nat} (hb : 119 ≤ b) (hb2 : b < 2 ^ 26) (h : J b 16 v) (hz : CrZ v) : CrZ (fMinute v) := by
  have l0 := h.1.1.1
  have ht := J_tick h
  have ht0 : J (b + 1) 0 (fTick v) := ⟨InvA_i ht.1 (fun q _ hq => absurd hq (by omega)), ht.2⟩
  have t1 : fTick v 1 = v 1 := up_n (by omega)
  have tz : CrZ (fTick v) := CrZ_c hz t1 (by omega) (fun j _ _ => up_n (by omega))
  have k1 := itr_I (f := fLand) (I := fun i w => w 1 = v 1 ∧ J (b + 1 + 2 * i) 0 w ∧ CrZ w) (N := v 1) (fun i w hw hi => by
    obtain ⟨j1, j2⟩ := J_land (c := i) hw.2.1 (by omega) (by omega) (by omega)
    exact ⟨by rw [j2]; exact hw.1, J_mono j1 (by omega), CrZ_land hw.2.1 (by omega) (by omega) hw.2.2 (by omega)⟩) (fTick v 1) 0 (fTick v) ⟨t1, J_mono ht0 (by omega), tz⟩ (by omega)
  rw [t1] at k1
  obtain ⟨n1, jl, z1⟩ := k1
  have jl2 : J (b + 9) 0 (itr fLand (v 1) 0 (fTick v)) := J_mono jl (by omega)
  have em : fMinute v = itr fSend (itr fWake (itr fLand (v 1) 0 (fTick v) 2) 0 (itr fLand (v 1) 0 (fTick v)) 1) 0 (itr fWake (itr fLand (v 1) 0 (fTick v) 2) 0 (itr fLand (v 1) 0 (fTick v))) := rfl
  rw [em]
  clear em jl
  generalize itr fLand (v 1) 0 (fTick v) = x at *
  have k2 := itr_I (f := fWake) (I := fun i w => w 2 = x 2 ∧ w 1 = x 1 ∧ J (b + 9) i w ∧ CrZ w) (N := x 2) (fun i w hw hi => by
    obtain ⟨j1, j2, j3⟩ := J_wake (i := i) hw.2.2.1 (by omega) (by omega)
    exact ⟨by rw [j2]; exact hw.1, by rw [j3]; exact hw.2.1, j1, CrZ_c hw.2.2.2 j3 hw.2.2.1.1.1.1.2.1 (fun j _ _ => fWake_lo (by omega))⟩) (x 2) 0 x ⟨rfl, rfl, jl2, z1⟩ (by omega)
  obtain ⟨n2, n3, jw, z2⟩ := k2
  have lx := jl2.1.1.1
  generalize itr fWake (x 2) 0 x = y at *
  have jw2 : J (b + 9) 16 y := ⟨InvA_i jw.1 (fun q hq _ => (jw.1.2.2.1 q hq).2.2.2.2.2.2.2 (by omega)), jw.2⟩
  have k3 := itr_I (f := fSend) (I := fun i w => w 1 = y 1 ∧ J (b + 9 + i) 16 w ∧ CrZ w) (N := y 1) (fun i w hw hi => by
    obtain ⟨j1, j2⟩ := J_send (c := i) hw.2.1 (by omega) (by omega)
    exact ⟨by rw [j2]; exact hw.1, J_mono j1 (by omega), CrZ_send hw.2.1 (by omega) hw.2.2 (by omega)⟩) (y 1) 0 y ⟨rfl, J_mono jw2 (by omega), z2⟩ (by omega)
  exact k3.2.2
theorem CrZ_itm : ∀ (k b : Nat) (v : Nat → Nat), 119 ≤ b → b + 13 * k < 2 ^ 26 → J b 16 v → CrZ v → CrZ (itm k v)
  | 0, _, _, _, _, _, h => h
  | k + 1, b, v, hb, hb2, h, hz => CrZ_itm k (b + 13) (fMinute v) (by omega) (by omega) (J_minute hb (by omega) h).1 (CrZ_minute hb (by omega) h hz)
end V3
/-! A CHANGE, BOTH SIDES AT ONCE: it is done (r: the answer, w: the row afterwards), or refused (e: the class's number, k: the reference's) -/
section OPP
variable {G : mgT} {μ : mmT} {z m : Nat} {v w : Nat → Nat} {B c : Nat} {x z1 z2 : Int32}
theorem nI_inj {a b : Nat} (ha : a < 2 ^ 31) (hb : b < 2 ^ 31) (h : nI a = nI b) : a = b := (nI_eq ha hb).mp h
abbrev Bo (B : Nat) : Prop := 119 ≤ B ∧ B + 1300 < 2 ^ 26
theorem CrZ_hire (hz : CrZ v) : CrZ (fHire v) := fun c hc z => by
  have e1 : fHire v 1 = v 1 + 1 := by
    unfold fHire
    exact up_s _ _ _
  rw [e1] at hc
  by_cases y : c = v 1
  · subst y
    unfold fHire
    rw [up_n (by omega), up_s]
  · rw [fH_o (by omega) (by omega) (by omega)] at z
    rw [fH_o (by omega) (by omega) (by omega)]
    exact hz c (by omega) z
theorem fR_o {n j : Nat} (l : Lim v) (hn : n < v 0) (h1 : 1 ≤ v (12 + 21 * n + 2)) (hj : j = 1 ∨ (138 ≤ j ∧ j < 146)) : fRead v n j = v j := by
  have l0 := l.1.1
  unfold fRead
  rw [fC_lo (by omega) (by omega), up_n (by omega), fS_o (l.2.1 n hn).1 h1 (by omega)]
theorem v3_read {n : Nat} (l : Lim v) (hn : n < v 0) (h1 : 1 ≤ v (12 + 21 * n + 2)) : fRead v n 3 = v 3 := by
  unfold fRead
  rw [v3_c, up_n (by omega), fS_o (l.2.1 n hn).1 h1 (by omega)]
end OPP

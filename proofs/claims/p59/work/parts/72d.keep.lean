/-! MESSAGES THAT DON'T FLY OUTLIVE THE MINUTE; WHAT IS FORESEEN COMES TRUE -/
section KEEPM
variable {v w u : Nat → Nat} {p n i d e t c b y k q m r s : Nat} {x : Int32}
theorem ceases_row (hp : p < v 2) (hq : q < v 2) (hn : q ≠ p) : ∃ r, r < fCeases v p 2 ∧ ∀ d, d < 7 → fCeases v p (146 + 7 * r + d) = v (146 + 7 * q + d) :=
  fC_ex hp hq hn (fun r hr er => ⟨by rw [fC_2]; exact hr, fun d hd => by rw [fC_m hr hd, er]⟩)
theorem arr_row (l : Lim v) (hp : p < v 2) (hq : q < v 2) (hn : q ≠ p) : ∃ r, r < fArrP v p 2 ∧ ∀ d, d < 7 → fArrP v p (146 + 7 * r + d) = v (146 + 7 * q + d) := by
  have l0 := l.1
  have hn1 := l.2.2 p hp
  have l1 := Lim_arr1 l hp
  have w2 : fArr1 v p 2 = v 2 := fArr1_o (by omega) (by omega)
  have w0 : fArr1 v p 0 = v 0 := fArr1_o (by omega) (by omega)
  have wo : ∀ j, j ≠ 10 → j ≠ 146 + 7 * p + 3 → fArr1 v p j = v j := fun j h1 h2 => fArr1_o h1 h2
  rw [fArrP_eq]
  generalize fArr1 v p = w at *
  have del : ∀ j z, j = 8 ∨ j = 9 → ∃ r, r < fCeases (up w j z) p 2 ∧ ∀ d, d < 7 → fCeases (up w j z) p (146 + 7 * r + d) = v (146 + 7 * q + d) := by
    intro j z hj
    have u2 : up w j z 2 = w 2 := up_n (by omega)
    obtain ⟨r, h1, h2⟩ := ceases_row (v := up w j z) (p := p) (q := q) (by omega) (by omega) hn
    exact ⟨r, h1, fun d hd => by rw [h2 d hd, up_n (by omega), wo _ (by omega) (by omega)]⟩
  by_cases g1 : fLost w p (v (146 + 7 * p + 3) + 1) = false ∧ fKnows w (v (146 + 7 * p + 1)) (w (146 + 7 * p + 2)) = true
  · rw [if_pos g1]
    exact del 8 _ (Or.inl rfl)
  · rw [if_neg g1]
    by_cases g2 : fLost w p (v (146 + 7 * p + 3) + 1) = false ∧ w (12 + 21 * v (146 + 7 * p + 1) + 2) < 8
    · rw [if_pos g2]
      have dl : ∀ j, j < 12 ∨ 138 ≤ j → j ≠ 6 → j ≠ 146 + 7 * p + 4 → fDeliv w p (v (146 + 7 * p + 1)) j = w j := fun j q1 q2 q3 => by rw [fD_lo l1 (by omega) (by omega) g2.2 q1, if_neg q2, if_neg q3]
      exact ⟨q, by rw [dl 2 (by omega) (by omega) (by omega)]; omega, fun d hd => by rw [dl _ (by omega) (by omega) (by omega), wo _ (by omega) (by omega)]⟩
    · rw [if_neg g2]
      by_cases g3 : v (146 + 7 * p + 3) + 1 = 5
      · rw [if_pos g3]
        exact del 9 _ (Or.inr rfl)
      · rw [if_neg g3]
        unfold fNap
        have no : ∀ j, j ≠ 146 + 7 * p + 4 → j ≠ 146 + 7 * p + 5 → j ≠ 146 + 7 * p + 6 → up (up (up w (146 + 7 * p + 4) 110) (146 + 7 * p + 5) (2 ^ (v (146 + 7 * p + 3) + 1))) (146 + 7 * p + 6) 1 j = w j := fun j q1 q2 q3 => by rw [up_n q3, up_n q2, up_n q1]
        exact ⟨q, by rw [no 2 (by omega) (by omega) (by omega)]; omega, fun d hd => by rw [no _ (by omega) (by omega) (by omega), wo _ (by omega) (by omega)]⟩
theorem land_row (hJ : J b 0 v) (hb2 : b < 2 ^ 31) (hc : c < v 1) (hq : q < v 2) (hs : v (146 + 7 * q + 4) ≠ 102) : ∃ r, r < fLand c v 2 ∧ ∀ d, d < 7 → fLand c v (146 + 7 * r + d) = v (146 + 7 * q + d) := by
  have l := hJ.1.1
  have l0 := l.1
  unfold fLand
  by_cases e0 : v (138 + 2 * c) = 0
  · rw [if_pos e0]
    exact ⟨q, hq, fun _ _ => rfl⟩
  · rw [if_neg e0]
    obtain ⟨q1, q2, q3, q4, q5⟩ := carried hJ hb2 hc e0
    by_cases r : 1 < v (138 + 2 * c + 1)
    · rw [if_pos r]
      exact ⟨q, by rw [up_n (by omega)]; exact hq, fun d hd => up_n (by omega)⟩
    · rw [if_neg r]
      unfold fArrives
      have vp : fPl (up (up v (138 + 2 * c + 1) (v (138 + 2 * c + 1) - 1)) (138 + 2 * c) 0) (nI (v (138 + 2 * c) - 1)) = fPl v (nI (v (138 + 2 * c) - 1)) := fPl_c (by rw [up_n (by omega), up_n (by omega)]) (fun q _ => by rw [up_n (by omega), up_n (by omega)])
      rw [vp]
      generalize fPl v (nI (v (138 + 2 * c) - 1)) = p at *
      have hu : ∀ j, j ≠ 138 + 2 * c → j ≠ 138 + 2 * c + 1 → up (up v (138 + 2 * c + 1) (v (138 + 2 * c + 1) - 1)) (138 + 2 * c) 0 j = v j := fun j y z => by rw [up_n y, up_n z]
      have lu : Lim (up (up v (138 + 2 * c + 1) (v (138 + 2 * c + 1) - 1)) (138 + 2 * c) 0) := Lim_up (Lim_up l (by omega)) (by omega)
      generalize up (up v (138 + 2 * c + 1) (v (138 + 2 * c + 1) - 1)) (138 + 2 * c) 0 = u at *
      have u2 := hu 2 (by omega) (by omega)
      obtain ⟨r, h1, h2⟩ := arr_row (v := u) (p := p) (q := q) lu (by omega) (by omega) (fun e => hs (by rw [e]; exact q4))
      exact ⟨r, h1, fun d hd => by rw [h2 d hd, hu _ (by omega) (by omega)]⟩
theorem fWk_lo {j : Nat} (hj : j < 146) : fWake p v j = v j := by
  unfold fWake
  split
  · split
    · rw [up_n (by omega)]
    · split
      · rw [up_n (by omega), up_n (by omega)]
      · rw [up_n (by omega)]
  · rfl
theorem wake_row (hq : q < v 2) (hi : i ≠ q) : q < fWake i v 2 ∧ ∀ d, d < 7 → fWake i v (146 + 7 * q + d) = v (146 + 7 * q + d) := by
  refine ⟨by rw [fWk_lo (by decide)]; exact hq, fun d hd => ?_⟩
  unfold fWake
  split
  · split
    · rw [up_n (by omega)]
    · split
      · rw [up_n (by omega), up_n (by omega)]
      · rw [up_n (by omega)]
  · rfl
theorem send_row (l : Lim v) (hc : c < v 1) (hq : q < v 2) (hs : v (146 + 7 * q + 4) ≠ 119) : q < fSend c v 2 ∧ ∀ d, d < 7 → fSend c v (146 + 7 * q + d) = v (146 + 7 * q + d) := by
  have l0 := l.1
  unfold fSend
  by_cases e0 : v (138 + 2 * c) = 0
  · rw [if_pos e0]
    by_cases hw : fWaiting v 0 < v 2
    · rw [if_pos hw]
      have st := fW_yes hw
      generalize fWaiting v 0 = p at *
      have hn : q ≠ p := fun e => hs (by rw [e]; exact st)
      unfold fSendP
      exact ⟨by rw [up_n (by omega), up_n (by omega), up_n (by omega)]; exact hq, fun d hd => by rw [up_n (by omega), up_n (by omega), up_n (by omega)]⟩
    · rw [if_neg hw]
      exact ⟨hq, fun _ _ => rfl⟩
  · rw [if_neg e0]
    exact ⟨hq, fun _ _ => rfl⟩
/-- a minute, stage by stage -/
theorem minute_st {P1 : (Nat → Nat) → Prop} {P2 : Nat → (Nat → Nat) → Prop} {P3 : (Nat → Nat) → Prop} (hb : 119 ≤ b) (hb2 : b < 2 ^ 26) (h : J b 16 v) (h0 : P1 (fTick v)) (hL : ∀ c w b, J b 0 w → b < 2 ^ 31 → 110 ≤ b → c < w 1 → P1 w → P1 (fLand c w)) (h12 : ∀ w b, J b 0 w → P1 w → P2 0 w) (hW : ∀ i w b, J b i w → i < w 2 → P2 i w → P2 (i + 1) (fWake i w)) (h23 : ∀ w, P2 (w 2) w → P3 w) (hS : ∀ c w b, J b 16 w → 119 ≤ b → c < w 1 → P3 w → P3 (fSend c w)) : P3 (fMinute v) := by
  have l0 := h.1.1.1
  have ht := J_tick h
  have ht0 : J (b + 1) 0 (fTick v) := ⟨InvA_i ht.1 (fun q _ hq => absurd hq (by omega)), ht.2⟩
  have t1 : fTick v 1 = v 1 := up_n (by omega)
  have k1 := itr_I (f := fLand) (I := fun i w => w 1 = v 1 ∧ J (b + 1 + 2 * i) 0 w ∧ P1 w) (N := v 1) (fun i w hw hi => by
    obtain ⟨j1, j2⟩ := J_land (c := i) hw.2.1 (by omega) (by omega) (by omega)
    exact ⟨by rw [j2]; exact hw.1, J_mono j1 (by omega), hL i w _ hw.2.1 (by omega) (by omega) (by omega) hw.2.2⟩) (fTick v 1) 0 (fTick v) ⟨t1, J_mono ht0 (by omega), h0⟩ (by omega)
  rw [t1] at k1
  obtain ⟨n1, jl, z1⟩ := k1
  have jl2 : J (b + 9) 0 (itr fLand (v 1) 0 (fTick v)) := J_mono jl (by omega)
  have em : fMinute v = itr fSend (itr fWake (itr fLand (v 1) 0 (fTick v) 2) 0 (itr fLand (v 1) 0 (fTick v)) 1) 0 (itr fWake (itr fLand (v 1) 0 (fTick v) 2) 0 (itr fLand (v 1) 0 (fTick v))) := rfl
  rw [em]
  clear em jl
  generalize itr fLand (v 1) 0 (fTick v) = x at *
  have k2 := itr_I (f := fWake) (I := fun i w => w 2 = x 2 ∧ w 1 = x 1 ∧ J (b + 9) i w ∧ P2 i w) (N := x 2) (fun i w hw hi => by
    obtain ⟨j1, j2, j3⟩ := J_wake (i := i) hw.2.2.1 (by omega) (by omega)
    exact ⟨by rw [j2]; exact hw.1, by rw [j3]; exact hw.2.1, j1, hW i w _ hw.2.2.1 (by omega) hw.2.2.2⟩) (x 2) 0 x ⟨rfl, rfl, jl2, h12 _ _ jl2 z1⟩ (by omega)
  obtain ⟨n2, n3, jw, z2⟩ := k2
  have lx := jl2.1.1.1
  generalize itr fWake (x 2) 0 x = y at *
  have jw2 : J (b + 9) 16 y := ⟨InvA_i jw.1 (fun q hq _ => (jw.1.2.2.1 q hq).2.2.2.2.2.2.2 (by omega)), jw.2⟩
  have k3 := itr_I (f := fSend) (I := fun i w => w 1 = y 1 ∧ J (b + 9 + i) 16 w ∧ P3 w) (N := y 1) (fun i w hw hi => by
    obtain ⟨j1, j2⟩ := J_send (c := i) hw.2.1 (by omega) (by omega)
    exact ⟨by rw [j2]; exact hw.1, J_mono j1 (by omega), hS i w _ hw.2.1 (by omega) (by omega) hw.2.2⟩) (y 1) 0 y ⟨rfl, J_mono jw2 (by omega), h23 _ (by rw [n2]; exact z2)⟩ (by omega)
  exact k3.2.2
/-- a message with this id and this status; one that naps so long -/
def Has (v : Nat → Nat) (y s : Nat) : Prop := ∃ p, p < v 2 ∧ v (146 + 7 * p) = y ∧ v (146 + 7 * p + 4) = s
def NapH (v : Nat → Nat) (y m : Nat) : Prop := ∃ p, p < v 2 ∧ v (146 + 7 * p) = y ∧ v (146 + 7 * p + 4) = 110 ∧ v (146 + 7 * p + 5) = m ∧ v (146 + 7 * p + 6) = 0
theorem Has_minute (hb : 119 ≤ b) (hb2 : b < 2 ^ 26) (h : J b 16 v) (hh : Has v y 100) : Has (fMinute v) y 100 := by
  refine minute_ind (P := fun w => Has w y 100) hb hb2 h ?_ (fun c w b hJ h1 _ h2 h3 => ?_) (fun i w b hJ h1 h2 => ?_) (fun c w b hJ _ h1 h2 => ?_)
  · obtain ⟨p, h1, h2, h3⟩ := hh
    exact ⟨p, by unfold fTick; rw [up_n (by omega)]; exact h1, by unfold fTick; rw [up_n (by omega)]; exact h2, by unfold fTick; rw [up_n (by omega)]; exact h3⟩
  · obtain ⟨p, g1, g2, g3⟩ := h3
    obtain ⟨r, r1, r2⟩ := land_row hJ h1 h2 g1 (by omega)
    exact ⟨r, r1, (r2 0 (by decide)).trans g2, (r2 4 (by decide)).trans g3⟩
  · obtain ⟨p, g1, g2, g3⟩ := h2
    by_cases e : i = p
    · subst e
      refine ⟨i, ?_, ?_, ?_⟩
      · unfold fWake
        rw [if_neg (by omega)]
        exact g1
      · unfold fWake
        rw [if_neg (by omega)]
        exact g2
      · unfold fWake
        rw [if_neg (by omega)]
        exact g3
    · obtain ⟨r1, r2⟩ := wake_row g1 e
      exact ⟨p, r1, (r2 0 (by decide)).trans g2, (r2 4 (by decide)).trans g3⟩
  · obtain ⟨p, g1, g2, g3⟩ := h2
    obtain ⟨r1, r2⟩ := send_row hJ.1.1 h1 g1 (by omega)
    exact ⟨p, r1, (r2 0 (by decide)).trans g2, (r2 4 (by decide)).trans g3⟩
theorem NapH_minute (hb : 119 ≤ b) (hb2 : b < 2 ^ 26) (h : J b 16 v) (hm : 2 ≤ m) (hh : NapH v y m) : NapH (fMinute v) y (m - 1) := by
  refine minute_st (P1 := fun w => NapH w y m) (P2 := fun i w => ∃ p, p < w 2 ∧ w (146 + 7 * p) = y ∧ w (146 + 7 * p + 4) = 110 ∧ w (146 + 7 * p + 5) = (if p < i then m - 1 else m) ∧ w (146 + 7 * p + 6) = 0) (P3 := fun w => NapH w y (m - 1)) hb hb2 h ?_ (fun c w b hJ h1 _ h2 h3 => ?_) (fun w _ _ hw => ?_) (fun i w b hJ h1 h2 => ?_) (fun w hw => ?_) (fun c w b hJ _ h1 h2 => ?_)
  · obtain ⟨p, h1, h2, h3, h4, h5⟩ := hh
    unfold fTick
    exact ⟨p, by rw [up_n (by omega)]; exact h1, by rw [up_n (by omega)]; exact h2, by rw [up_n (by omega)]; exact h3, by rw [up_n (by omega)]; exact h4, by rw [up_n (by omega)]; exact h5⟩
  · obtain ⟨p, g1, g2, g3, g4, g5⟩ := h3
    obtain ⟨r, r1, r2⟩ := land_row hJ h1 h2 g1 (by omega)
    exact ⟨r, r1, (r2 0 (by decide)).trans g2, (r2 4 (by decide)).trans g3, (r2 5 (by decide)).trans g4, (r2 6 (by decide)).trans g5⟩
  · obtain ⟨p, g1, g2, g3, g4, g5⟩ := hw
    exact ⟨p, g1, g2, g3, by rw [if_neg (Nat.not_lt_zero _)]; exact g4, g5⟩
  · obtain ⟨p, g1, g2, g3, g4, g5⟩ := h2
    by_cases e : i = p
    · subst e
      rw [if_neg (Nat.lt_irrefl _)] at g4
      have ef : fWake i w = up w (146 + 7 * i + 5) (w (146 + 7 * i + 5) - 1) := by
        unfold fWake
        rw [if_pos g3, if_neg (by omega), if_neg (by omega)]
      rw [ef]
      refine ⟨i, by rw [up_n (by omega)]; exact g1, by rw [up_n (by omega)]; exact g2, by rw [up_n (by omega)]; exact g3, ?_, by rw [up_n (by omega)]; exact g5⟩
      rw [up_s, if_pos (by omega), g4]
    · obtain ⟨r1, r2⟩ := wake_row g1 e
      refine ⟨p, r1, (r2 0 (by decide)).trans g2, (r2 4 (by decide)).trans g3, (r2 5 (by decide)).trans (g4.trans ?_), (r2 6 (by decide)).trans g5⟩
      by_cases z : p < i
      · rw [if_pos z, if_pos (by omega)]
      · rw [if_neg z, if_neg (by omega)]
  · obtain ⟨p, g1, g2, g3, g4, g5⟩ := hw
    rw [if_pos g1] at g4
    exact ⟨p, g1, g2, g3, g4, g5⟩
  · obtain ⟨p, g1, g2, g3, g4, g5⟩ := h2
    obtain ⟨r1, r2⟩ := send_row hJ.1.1 h1 g1 (by omega)
    exact ⟨p, r1, (r2 0 (by decide)).trans g2, (r2 4 (by decide)).trans g3, (r2 5 (by decide)).trans g4, (r2 6 (by decide)).trans g5⟩
theorem Has_itm : ∀ (k b : Nat) (v : Nat → Nat), 119 ≤ b → b + 13 * k < 2 ^ 26 → J b 16 v → Has v y 100 → Has (itm k v) y 100
  | 0, _, _, _, _, _, h => h
  | k + 1, b, v, hb, hb2, h, hz => Has_itm k (b + 13) (fMinute v) (by omega) (by omega) (J_minute hb (by omega) h).1 (Has_minute hb (by omega) h hz)
theorem NapH_itm : ∀ (k b m : Nat) (v : Nat → Nat), 119 ≤ b → b + 13 * k < 2 ^ 26 → J b 16 v → k < m → NapH v y m → NapH (itm k v) y (m - k)
  | 0, _, _, _, _, _, _, _, h => h
  | k + 1, b, m, v, hb, hb2, h, hk, hz => by
    have := NapH_itm k (b + 13) (m - 1) (fMinute v) (by omega) (by omega) (J_minute hb (by omega) h).1 (by omega) (NapH_minute hb (by omega) h (by omega) hz)
    rw [show m - (k + 1) = m - 1 - k by omega]
    exact this
theorem itm_add : ∀ (a : Nat) (c : Nat) (v : Nat → Nat), itm (a + c) v = itm c (itm a v)
  | 0, c, v => by rw [Nat.zero_add]; rfl
  | a + 1, c, v => by
    rw [show a + 1 + c = (a + c) + 1 by omega]
    show itm (a + c) (fMinute v) = itm c (itm a (fMinute v))
    exact itm_add a c (fMinute v)
end KEEPM

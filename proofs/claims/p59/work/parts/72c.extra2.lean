/-! WHAT ELSE HOLDS IS KEPT: by a minute, by every change -/
section EXTRA2
variable {v w u : Nat → Nat} {p n i d e t c b x y k q : Nat}
theorem EE_land (h : EE v) (hJ : J b 0 v) (hb2 : b < 2 ^ 31) (hc : c < v 1) : EE (fLand c v) := by
  have l := hJ.1.1
  have l0 := l.1
  unfold fLand
  by_cases e0 : v (138 + 2 * c) = 0
  · rw [if_pos e0]
    exact h
  · rw [if_neg e0]
    obtain ⟨q1, q2, q3, q4, q5⟩ := carried hJ hb2 hc e0
    by_cases r : 1 < v (138 + 2 * c + 1)
    · rw [if_pos r]
      obtain ⟨a1, a2, ⟨c1, c2⟩, a4⟩ := h
      refine ⟨EN_c a1 (up_n (by omega)) (fun q _ => ⟨up_n (by omega), up_n (by omega), up_n (by omega)⟩), EF_crow (c := c) a2 (up_n (by omega)) (up_n (by omega)) (fun d hd e => ⟨up_n (by omega), up_n (by omega)⟩) (fun q _ => ⟨up_n (by omega), up_n (by omega)⟩) (fun q hq => up_n (by have := l.2.2 q hq; omega)) (fun q hq z => ?_), ⟨?_, ?_⟩, EK_c a4 l (up_n (by omega)) (fun n d hn _ _ => up_n (by omega))⟩
      · rw [up_n (by omega)] at z
        rw [up_s]
        have := a2 c q hc hq z
        omega
      · rw [up_n (by omega), up_n (by omega), up_n (by omega), up_n (by omega)]
        exact c1
      · rw [up_n (by omega), up_n (by omega), cS_c (v := v) (up_n (by omega)) (fun q _ => up_n (by omega))]
        exact c2
    · rw [if_neg r]
      unfold fArrives
      have vp : fPl (up (up v (138 + 2 * c + 1) (v (138 + 2 * c + 1) - 1)) (138 + 2 * c) 0) (nI (v (138 + 2 * c) - 1)) = fPl v (nI (v (138 + 2 * c) - 1)) := fPl_c (by rw [up_n (by omega), up_n (by omega)]) (fun q _ => by rw [up_n (by omega), up_n (by omega)])
      rw [vp]
      generalize fPl v (nI (v (138 + 2 * c) - 1)) = p at *
      have hu : ∀ j, j ≠ 138 + 2 * c → j ≠ 138 + 2 * c + 1 → up (up v (138 + 2 * c + 1) (v (138 + 2 * c + 1) - 1)) (138 + 2 * c) 0 j = v j := fun j y z => by rw [up_n y, up_n z]
      have hz : up (up v (138 + 2 * c + 1) (v (138 + 2 * c + 1) - 1)) (138 + 2 * c) 0 (138 + 2 * c) = 0 := up_s _ _ _
      generalize up (up v (138 + 2 * c + 1) (v (138 + 2 * c + 1) - 1)) (138 + 2 * c) 0 = u at *
      have hU : InvA u 0 (0 + 1) 0 := InvA_crow (c := c) hJ.1 hc hu (fun z => absurd hz z) (fun f _ _ z => absurd hz z) (by rw [hz, if_neg e0, if_pos rfl])
      have u2 := hu 2 (by omega) (by omega)
      have u1 := hu 1 (by omega) (by omega)
      have u0 := hu 0 (by omega) (by omega)
      obtain ⟨a1, a2, ⟨c1, c2⟩, a4⟩ := h
      have hE : EE u := by
        refine ⟨EN_c a1 u2 (fun q _ => ⟨hu _ (by omega) (by omega), hu _ (by omega) (by omega), hu _ (by omega) (by omega)⟩), EF_crow (c := c) a2 u1 u2 (fun d hd e => ⟨hu _ (by omega) (by omega), hu _ (by omega) (by omega)⟩) (fun q _ => ⟨hu _ (by omega) (by omega), hu _ (by omega) (by omega)⟩) (fun q hq => by have := l.2.2 q hq; exact hu _ (by omega) (by omega)) (fun q hq z => by rw [hz] at z; omega), ⟨?_, ?_⟩, EK_c a4 l u0 (fun n d hn _ _ => hu _ (by omega) (by omega))⟩
        · rw [hu 6 (by omega) (by omega), hu 8 (by omega) (by omega), hu 9 (by omega) (by omega), hu 10 (by omega) (by omega)]
          exact c1
        · rw [hu 6 (by omega) (by omega), hu 7 (by omega) (by omega), cS_c (v := v) u2 (fun q _ => hu _ (by omega) (by omega))]
          exact c2
      exact EE_arr (d := 0) hE hU (by rw [u2]; exact q2) (by rw [hu _ (by omega) (by omega)]; exact q4)
theorem EE_row (h : EE v) (l : Lim v) (hp : p < v 2) (hw : ∀ j, j < 146 + 7 * p + 3 ∨ 146 + 7 * p + 7 ≤ j → w j = v j) (hr : (w (146 + 7 * p + 4) = 110 → 1 ≤ w (146 + 7 * p + 3) ∧ w (146 + 7 * p + 5) ≤ 2 ^ w (146 + 7 * p + 3)) ∧ (w (146 + 7 * p + 4) = 100 → 1 ≤ w (146 + 7 * p + 3))) (h1 : v (146 + 7 * p + 4) ≠ 100) (h2 : w (146 + 7 * p + 4) ≠ 100) : EE w := by
  have l0 := l.1
  obtain ⟨a1, a2, ⟨c1, c2⟩, a4⟩ := h
  have w2 := hw 2 (by omega)
  have r := cS_row (x := 100) (p := p) (v := v) (w := w) hp w2 (fun q e => hw _ (by omega))
  rw [if_neg h1, if_neg h2] at r
  refine ⟨EN_row (p := p) a1 w2 (fun q _ e => ⟨hw _ (by omega), hw _ (by omega), hw _ (by omega)⟩) hr, EF_c a2 (hw 1 (by omega)) w2 (fun c hc => ⟨hw _ (by omega), hw _ (by omega)⟩) (fun q _ => ⟨hw _ (by omega), hw _ (by omega)⟩) (fun q hq => by have := l.2.2 q hq; exact hw _ (by omega)), ⟨?_, ?_⟩, EK_c a4 l (hw 0 (by omega)) (fun n d hn _ _ => hw _ (by omega))⟩
  · rw [hw 6 (by omega), hw 8 (by omega), hw 9 (by omega), hw 10 (by omega)]
    exact c1
  · rw [hw 6 (by omega), hw 7 (by omega)]
    omega
theorem EE_wake (h : EE v) (l : Lim v) (hp : i < v 2) : EE (fWake i v) := by
  have m := (h.1 i hp).1
  unfold fWake
  by_cases c : v (146 + 7 * i + 4) = 110
  · rw [if_pos c]
    obtain ⟨m1, m2⟩ := m c
    by_cases f : v (146 + 7 * i + 6) = 1
    · rw [if_pos f]
      refine EE_row h l hp (fun j hj => up_n (by omega)) ⟨fun _ => ?_, fun z => ?_⟩ (by omega) ?_
      · rw [up_n (by omega), up_n (by omega)]
        exact ⟨m1, m2⟩
      · rw [up_n (by omega)] at z
        omega
      · rw [up_n (by omega)]
        omega
    · rw [if_neg f]
      by_cases n1 : v (146 + 7 * i + 5) = 1
      · rw [if_pos n1]
        refine EE_row h l hp (fun j hj => by rw [up_n (by omega), up_n (by omega)]) ⟨fun z => ?_, fun z => ?_⟩ (by omega) ?_
        · rw [up_s] at z
          exact absurd z (by decide)
        · rw [up_s] at z
          exact absurd z (by decide)
        · rw [up_s]
          decide
      · rw [if_neg n1]
        refine EE_row h l hp (fun j hj => up_n (by omega)) ⟨fun _ => ?_, fun z => ?_⟩ (by omega) ?_
        · rw [up_n (show 146 + 7 * i + 3 ≠ 146 + 7 * i + 5 by omega), up_s]
          exact ⟨m1, by omega⟩
        · rw [up_n (by omega)] at z
          omega
        · rw [up_n (by omega)]
          omega
  · rw [if_neg c]
    exact h
theorem EE_send (h : EE v) (hJ : J b 16 v) (hc : c < v 1) : EE (fSend c v) := by
  have l := hJ.1.1
  have l0 := l.1
  unfold fSend
  by_cases e0 : v (138 + 2 * c) = 0
  · rw [if_pos e0]
    by_cases hw : fWaiting v 0 < v 2
    · rw [if_pos hw]
      have st := fW_yes hw
      generalize fWaiting v 0 = p at *
      have hn := l.2.2 p hw
      unfold fSendP
      have A : EE (up v (146 + 7 * p + 4) 102) := by
        refine EE_row h l hw (fun j hj => up_n (by omega)) ⟨fun z => ?_, fun z => ?_⟩ (by omega) ?_
        · rw [up_s] at z
          exact absurd z (by decide)
        · rw [up_s] at z
          exact absurd z (by decide)
        · rw [up_s]
          decide
      have l1 : Lim (up v (146 + 7 * p + 4) 102) := Lim_upM l hw (by decide)
      have i1 : ∀ q r, q < v 2 → r < v 2 → v (146 + 7 * q) = v (146 + 7 * r) → q = r := fun q r h1 h2 e => ids_inj hJ.1.2.1 h1 h2 e
      obtain ⟨a1, a2, ⟨c1, c2⟩, a4⟩ := A
      have uo : ∀ j, j ≠ 146 + 7 * p + 4 → up v (146 + 7 * p + 4) 102 j = v j := fun j z => up_n z
      have u1 := uo 1 (by omega)
      have u2 := uo 2 (by omega)
      generalize up v (146 + 7 * p + 4) 102 = w at *
      have o : ∀ j, j ≠ 138 + 2 * c → j ≠ 138 + 2 * c + 1 → up (up w (138 + 2 * c) (v (146 + 7 * p) + 1)) (138 + 2 * c + 1) (v (12 + 21 * v (146 + 7 * p + 1)) + if 5 < v 5 then 1 else 0) j = w j := fun j y z => by rw [up_n z, up_n y]
      have o1 : up (up w (138 + 2 * c) (v (146 + 7 * p) + 1)) (138 + 2 * c + 1) (v (12 + 21 * v (146 + 7 * p + 1)) + if 5 < v 5 then 1 else 0) (138 + 2 * c) = v (146 + 7 * p) + 1 := by rw [up_n (by omega), up_s]
      have o2 : up (up w (138 + 2 * c) (v (146 + 7 * p) + 1)) (138 + 2 * c + 1) (v (12 + 21 * v (146 + 7 * p + 1)) + if 5 < v 5 then 1 else 0) (138 + 2 * c + 1) = v (12 + 21 * v (146 + 7 * p + 1)) + if 5 < v 5 then 1 else 0 := by rw [up_s]
      generalize up (up w (138 + 2 * c) (v (146 + 7 * p) + 1)) (138 + 2 * c + 1) (v (12 + 21 * v (146 + 7 * p + 1)) + if 5 < v 5 then 1 else 0) = z at *
      have z2 := o 2 (by omega) (by omega)
      refine ⟨EN_c a1 z2 (fun q _ => ⟨o _ (by omega) (by omega), o _ (by omega) (by omega), o _ (by omega) (by omega)⟩), EF_crow (c := c) a2 (o 1 (by omega) (by omega)) z2 (fun d hd e => ⟨o _ (by omega) (by omega), o _ (by omega) (by omega)⟩) (fun q _ => ⟨o _ (by omega) (by omega), o _ (by omega) (by omega)⟩) (fun q hq => by have := l1.2.2 q hq; have := l1.1; exact o _ (by omega) (by omega)) (fun q hq e => ?_), ⟨?_, ?_⟩, EK_c a4 l1 (o 0 (by omega) (by omega)) (fun n d hn _ _ => by have := l1.1; exact o _ (by omega) (by omega))⟩
      · rw [u2] at hq
        rw [o1, uo (146 + 7 * q) (by omega)] at e
        obtain rfl := i1 p q hw hq (by omega)
        rw [o2, uo (146 + 7 * p + 1) (by omega), uo (12 + 21 * v (146 + 7 * p + 1)) (by omega)]
        split <;> omega
      · rw [o 6 (by omega) (by omega), o 8 (by omega) (by omega), o 9 (by omega) (by omega), o 10 (by omega) (by omega)]
        exact c1
      · rw [o 6 (by omega) (by omega), o 7 (by omega) (by omega), cS_c (v := w) z2 (fun q _ => o _ (by omega) (by omega))]
        exact c2
    · rw [if_neg hw]
      exact h
  · rw [if_neg e0]
    exact h
/-- any property that the steps of a minute keep, the minute keeps -/
theorem minute_ind {P : (Nat → Nat) → Prop} (hb : 119 ≤ b) (hb2 : b < 2 ^ 26) (h : J b 16 v) (h0 : P (fTick v)) (hL : ∀ c w b, J b 0 w → b < 2 ^ 31 → 110 ≤ b → c < w 1 → P w → P (fLand c w)) (hW : ∀ i w b, J b i w → i < w 2 → P w → P (fWake i w)) (hS : ∀ c w b, J b 16 w → 119 ≤ b → c < w 1 → P w → P (fSend c w)) : P (fMinute v) := by
  have l0 := h.1.1.1
  have ht := J_tick h
  have ht0 : J (b + 1) 0 (fTick v) := ⟨InvA_i ht.1 (fun q _ hq => absurd hq (by omega)), ht.2⟩
  have t1 : fTick v 1 = v 1 := up_n (by omega)
  have k1 := itr_I (f := fLand) (I := fun i w => w 1 = v 1 ∧ J (b + 1 + 2 * i) 0 w ∧ P w) (N := v 1) (fun i w hw hi => by
    obtain ⟨j1, j2⟩ := J_land (c := i) hw.2.1 (by omega) (by omega) (by omega)
    exact ⟨by rw [j2]; exact hw.1, J_mono j1 (by omega), hL i w _ hw.2.1 (by omega) (by omega) (by omega) hw.2.2⟩) (fTick v 1) 0 (fTick v) ⟨t1, J_mono ht0 (by omega), h0⟩ (by omega)
  rw [t1] at k1
  obtain ⟨n1, jl, z1⟩ := k1
  have jl2 : J (b + 9) 0 (itr fLand (v 1) 0 (fTick v)) := J_mono jl (by omega)
  have em : fMinute v = itr fSend (itr fWake (itr fLand (v 1) 0 (fTick v) 2) 0 (itr fLand (v 1) 0 (fTick v)) 1) 0 (itr fWake (itr fLand (v 1) 0 (fTick v) 2) 0 (itr fLand (v 1) 0 (fTick v))) := rfl
  rw [em]
  clear em jl
  generalize itr fLand (v 1) 0 (fTick v) = x at *
  have k2 := itr_I (f := fWake) (I := fun i w => w 2 = x 2 ∧ w 1 = x 1 ∧ J (b + 9) i w ∧ P w) (N := x 2) (fun i w hw hi => by
    obtain ⟨j1, j2, j3⟩ := J_wake (i := i) hw.2.2.1 (by omega) (by omega)
    exact ⟨by rw [j2]; exact hw.1, by rw [j3]; exact hw.2.1, j1, hW i w _ hw.2.2.1 (by omega) hw.2.2.2⟩) (x 2) 0 x ⟨rfl, rfl, jl2, z1⟩ (by omega)
  obtain ⟨n2, n3, jw, z2⟩ := k2
  have lx := jl2.1.1.1
  generalize itr fWake (x 2) 0 x = y at *
  have jw2 : J (b + 9) 16 y := ⟨InvA_i jw.1 (fun q hq _ => (jw.1.2.2.1 q hq).2.2.2.2.2.2.2 (by omega)), jw.2⟩
  have k3 := itr_I (f := fSend) (I := fun i w => w 1 = y 1 ∧ J (b + 9 + i) 16 w ∧ P w) (N := y 1) (fun i w hw hi => by
    obtain ⟨j1, j2⟩ := J_send (c := i) hw.2.1 (by omega) (by omega)
    exact ⟨by rw [j2]; exact hw.1, J_mono j1 (by omega), hS i w _ hw.2.1 (by omega) (by omega) hw.2.2⟩) (y 1) 0 y ⟨rfl, J_mono jw2 (by omega), z2⟩ (by omega)
  exact k3.2.2
theorem EE_minute (hb : 119 ≤ b) (hb2 : b < 2 ^ 26) (h : J b 16 v) (hE : EE v) : EE (fMinute v) :=
  minute_ind hb hb2 h (EE_lo hE h.1.1 (fun j hj => up_n (by omega))) (fun c w b hJ h1 _ h2 h3 => EE_land h3 hJ h1 h2) (fun i w b hJ h1 h2 => EE_wake h2 hJ.1.1 h1) (fun c w b hJ _ h1 h2 => EE_send h2 hJ h1)
theorem EE_itm : ∀ (k b : Nat) (v : Nat → Nat), 119 ≤ b → b + 13 * k < 2 ^ 26 → J b 16 v → EE v → EE (itm k v)
  | 0, _, _, _, _, _, h => h
  | k + 1, b, v, hb, hb2, h, hz => EE_itm k (b + 13) (fMinute v) (by omega) (by omega) (J_minute hb (by omega) h).1 (EE_minute hb (by omega) h hz)
theorem EE_forget (h : EE v) (l : Lim v) (hn : n < v 0) : EE (fForget v n) := by
  have l0 := l.1
  obtain ⟨a1, a2, ⟨c1, c2⟩, a4⟩ := h
  have o : ∀ j, (∀ d, 11 ≤ d → d < 20 → j ≠ 12 + 21 * n + d) → fForget v n j = v j := fun j hj => fF_o hj
  refine ⟨EN_c a1 (o _ (fun d _ _ => by omega)) (fun q _ => ⟨o _ (fun d _ _ => by omega), o _ (fun d _ _ => by omega), o _ (fun d _ _ => by omega)⟩), EF_c a2 (o _ (fun d _ _ => by omega)) (o _ (fun d _ _ => by omega)) (fun c _ => ⟨o _ (fun d _ _ => by omega), o _ (fun d _ _ => by omega)⟩) (fun q _ => ⟨o _ (fun d _ _ => by omega), o _ (fun d _ _ => by omega)⟩) (fun q hq => o _ (fun d _ _ => by omega)), ⟨?_, ?_⟩, fun m hm => ?_⟩
  · rw [o 6 (fun d _ _ => by omega), o 8 (fun d _ _ => by omega), o 9 (fun d _ _ => by omega), o 10 (fun d _ _ => by omega)]
    exact c1
  · rw [o 6 (fun d _ _ => by omega), o 7 (fun d _ _ => by omega), cS_c (v := v) (o 2 (fun d _ _ => by omega)) (fun q _ => o _ (fun d _ _ => by omega))]
    exact c2
  · rw [o 0 (fun d _ _ => by omega)] at hm
    by_cases e : m = n
    · subst e
      rw [fF_s (by omega) (by omega)]
      exact ⟨fun k z => absurd z (Nat.not_lt_zero _), fun j k _ z => absurd z (Nat.not_lt_zero _)⟩
    · have l8 := (l.2.1 m hm).2.1
      rw [o _ (fun d _ _ => by omega)]
      obtain ⟨b1, b2⟩ := a4 m hm
      exact ⟨fun k z => by rw [o _ (fun d _ _ => by omega)]; exact b1 k z, fun j k z1 z2 => by rw [o _ (fun d _ _ => by omega), o _ (fun d _ _ => by omega)]; exact b2 j k z1 z2⟩
theorem EE_hire (h : EE v) (l : Lim v) (hc : v 1 < 4) : EE (fHire v) := by
  have l0 := l.1
  obtain ⟨a1, a2, ⟨c1, c2⟩, a4⟩ := h
  have o : ∀ j, j ≠ 1 → j ≠ 138 + 2 * v 1 → j ≠ 138 + 2 * v 1 + 1 → fHire v j = v j := fun j h1 h2 h3 => fH_o h1 h2 h3
  refine ⟨EN_c a1 (o _ (by omega) (by omega) (by omega)) (fun q _ => ⟨o _ (by omega) (by omega) (by omega), o _ (by omega) (by omega) (by omega), o _ (by omega) (by omega) (by omega)⟩), fun c p hc' hp e => ?_, ⟨?_, ?_⟩, EK_c a4 l (o _ (by omega) (by omega) (by omega)) (fun n d hn _ _ => o _ (by omega) (by omega) (by omega))⟩
  · rw [o 2 (by omega) (by omega) (by omega)] at hp
    rw [fH_1] at hc'
    have hn := l.2.2 p hp
    rw [o (146 + 7 * p) (by omega) (by omega) (by omega)] at e
    by_cases y : c = v 1
    · subst y
      rw [fH_c] at e
      omega
    · rw [o (138 + 2 * c) (by omega) (by omega) (by omega)] at e
      rw [o (138 + 2 * c + 1) (by omega) (by omega) (by omega), o (146 + 7 * p + 1) (by omega) (by omega) (by omega), o (12 + 21 * v (146 + 7 * p + 1)) (by omega) (by omega) (by omega)]
      exact a2 c p (by omega) hp e
  · rw [o 6 (by omega) (by omega) (by omega), o 8 (by omega) (by omega) (by omega), o 9 (by omega) (by omega) (by omega), o 10 (by omega) (by omega) (by omega)]
    exact c1
  · rw [o 6 (by omega) (by omega) (by omega), o 7 (by omega) (by omega) (by omega), cS_c (v := v) (o 2 (by omega) (by omega) (by omega)) (fun q _ => o _ (by omega) (by omega) (by omega))]
    exact c2
theorem EE_open (h : EE v) (l : Lim v) (h6 : v 0 < 6) : EE (fOpen v x y) := by
  have l0 := l.1
  obtain ⟨a1, a2, ⟨c1, c2⟩, a4⟩ := h
  have o : ∀ j, j ≠ 0 → (j < 12 + 21 * v 0 ∨ 12 + 21 * v 0 + 21 ≤ j) → fOpen v x y j = v j := fun j h1 h2 => fO_o h1 h2
  refine ⟨EN_c a1 (o _ (by omega) (by omega)) (fun q _ => ⟨o _ (by omega) (by omega), o _ (by omega) (by omega), o _ (by omega) (by omega)⟩), EF_c a2 (o _ (by omega) (by omega)) (o _ (by omega) (by omega)) (fun c _ => ⟨o _ (by omega) (by omega), o _ (by omega) (by omega)⟩) (fun q _ => ⟨o _ (by omega) (by omega), o _ (by omega) (by omega)⟩) (fun q hq => by have := l.2.2 q hq; exact o _ (by omega) (by omega)), ⟨?_, ?_⟩, fun m hm => ?_⟩
  · rw [o 6 (by omega) (by omega), o 8 (by omega) (by omega), o 9 (by omega) (by omega), o 10 (by omega) (by omega)]
    exact c1
  · rw [o 6 (by omega) (by omega), o 7 (by omega) (by omega), cS_c (v := v) (o 2 (by omega) (by omega)) (fun q _ => o _ (by omega) (by omega))]
    exact c2
  · rw [fO_0] at hm
    by_cases e : m = v 0
    · subst e
      rw [fO_z (by omega) (by omega)]
      exact ⟨fun k z => absurd z (Nat.not_lt_zero _), fun j k _ z => absurd z (Nat.not_lt_zero _)⟩
    · have l8 := (l.2.1 m (by omega)).2.1
      rw [o _ (by omega) (by omega)]
      obtain ⟨b1, b2⟩ := a4 m (by omega)
      exact ⟨fun k z => by rw [o _ (by omega) (by omega)]; exact b1 k z, fun j k z1 z2 => by rw [o _ (by omega) (by omega), o _ (by omega) (by omega)]; exact b2 j k z1 z2⟩
theorem EE_post (h : EE v) (hJ : J b 16 v) (hn : n < v 0) (h16 : v 2 < 16) : EE (fPost v n k) := by
  have l := hJ.1.1
  have l0 := l.1
  obtain ⟨a1, a2, ⟨c1, c2⟩, a4⟩ := h
  have o : ∀ j, j ≠ 2 → j ≠ 3 → (j < 146 + 7 * v 2 ∨ 146 + 7 * v 2 + 7 ≤ j) → fPost v n k j = v j := fun j h1 h2 h3 => fQ_o h1 h2 h3
  obtain ⟨r0, r1, r2, r3, r4, r5, r6⟩ := fQ_r (v := v) (n := n) (k := k)
  have e2 : fPost v n k 2 = v 2 + 1 := fQ_2
  refine ⟨fun p hp => ?_, fun c p hc hp e => ?_, ⟨?_, ?_⟩, EK_c a4 l (o _ (by omega) (by omega) (by omega)) (fun n d hn _ _ => o _ (by omega) (by omega) (by omega))⟩
  · rw [e2] at hp
    by_cases y : p = v 2
    · subst y
      rw [r4]
      exact ⟨fun z => absurd z (by decide), fun z => absurd z (by decide)⟩
    · rw [o _ (by omega) (by omega) (by omega), o _ (by omega) (by omega) (by omega), o _ (by omega) (by omega) (by omega)]
      exact a1 p (by omega)
  · rw [o 1 (by omega) (by omega) (by omega)] at hc
    rw [e2] at hp
    rw [o (138 + 2 * c) (by omega) (by omega) (by omega)] at e
    by_cases y : p = v 2
    · subst y
      rw [r0] at e
      obtain ⟨-, p, hp2, z1, -⟩ := hJ.1.2.2.2.1.1 c hc (by omega)
      have := hJ.1.2.1.1 p hp2
      omega
    · have hn2 := l.2.2 p (by omega)
      rw [o (146 + 7 * p) (by omega) (by omega) (by omega)] at e
      rw [o (138 + 2 * c + 1) (by omega) (by omega) (by omega), o (146 + 7 * p + 1) (by omega) (by omega) (by omega), o (12 + 21 * v (146 + 7 * p + 1)) (by omega) (by omega) (by omega)]
      exact a2 c p hc (by omega) e
  · rw [o 6 (by omega) (by omega) (by omega), o 8 (by omega) (by omega) (by omega), o 9 (by omega) (by omega) (by omega), o 10 (by omega) (by omega) (by omega)]
    exact c1
  · rw [o 6 (by omega) (by omega) (by omega), o 7 (by omega) (by omega) (by omega), c2]
    congr 1
    unfold cS
    rw [e2]
    show _ = cnt _ (v 2) + _
    rw [cnt_c (p := fun q => decide (fPost v n k (146 + 7 * q + 4) = 100)) (q := fun q => decide (v (146 + 7 * q + 4) = 100)) (v 2) (fun q hq => by rw [o _ (by omega) (by omega) (by omega)]), if_neg (by show ¬ decide (fPost v n k (146 + 7 * v 2 + 4) = 100) = true; rw [r4]; decide)]
    exact (Nat.add_zero _).symm
theorem EE_cancel (h : EE v) (l : Lim v) (hp : p < v 2) (h2 : v (146 + 7 * p + 4) ≠ 100) : EE (fCeases (up v 11 y) p) := by
  refine EE_ceases (EE_lo h l (fun j hj => up_n (by omega))) (Lim_up l (by omega)) (by rw [up_n (by omega)]; exact hp) ?_
  rw [up_n (by omega)]
  exact h2
theorem EE_read (h : EE v) (hJ : J b 16 v) (hb2 : b < 2 ^ 31) (hn : n < v 0) (h1 : 1 ≤ v (12 + 21 * n + 2)) : EE (fRead v n) := by
  have l := hJ.1.1
  have l0 := l.1
  have l8 := (l.2.1 n hn).1
  obtain ⟨q1, q2, q3, q4⟩ := first_in hJ hb2 hn h1
  unfold fRead
  generalize fPl v (nI (v (12 + 21 * n + 3))) = p at *
  have o : ∀ j, (j < 12 + 21 * n + 2 ∨ 12 + 21 * n + 11 ≤ j) → j ≠ 7 → up (fShift v n) 7 (v 7 + 1) j = v j := fun j h2 h3 => by rw [up_n h3, fS_o l8 h1 h2]
  have o7 : up (fShift v n) 7 (v 7 + 1) 7 = v 7 + 1 := up_s _ _ _
  have lu : Lim (up (fShift v n) 7 (v 7 + 1)) := Lim_up (Lim_shift l hn h1) (by omega)
  generalize up (fShift v n) 7 (v 7 + 1) = w at *
  obtain ⟨a1, a2, ⟨c1, c2⟩, a4⟩ := h
  have w2 := o 2 (by omega) (by omega)
  have hpw : p < w 2 := by omega
  have r := cS_ceases (x := 100) hpw
  rw [o (146 + 7 * p + 4) (by omega) (by omega), if_pos q3, cS_c (v := v) w2 (fun q _ => o _ (by omega) (by omega))] at r
  refine ⟨EN_ceases (EN_c a1 w2 (fun q _ => ⟨o _ (by omega) (by omega), o _ (by omega) (by omega), o _ (by omega) (by omega)⟩)) hpw, EF_ceases (EF_c a2 (o 1 (by omega) (by omega)) w2 (fun c _ => ⟨o _ (by omega) (by omega), o _ (by omega) (by omega)⟩) (fun q _ => ⟨o _ (by omega) (by omega), o _ (by omega) (by omega)⟩) (fun q hq => o _ (by omega) (by omega))) lu hpw, ⟨?_, ?_⟩, EK_ceases (EK_c a4 l (o 0 (by omega) (by omega)) (fun m d hm _ _ => o _ (by omega) (by omega))) lu⟩
  · rw [fC_lo (by decide) (by decide), fC_lo (by decide) (by decide), fC_lo (by decide) (by decide), fC_lo (by decide) (by decide), o 6 (by omega) (by omega), o 8 (by omega) (by omega), o 9 (by omega) (by omega), o 10 (by omega) (by omega)]
    exact c1
  · rw [fC_lo (by decide) (by decide), fC_lo (by decide) (by decide), o 6 (by omega) (by omega), o7]
    omega
end EXTRA2

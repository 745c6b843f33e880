section PASS
variable {G : mgT} {μ : mmT} {a m : Nat} {S : cT} {v w : Nat → Nat} {p n i d e t c b : Nat}
/-- the reference's minute -/
theorem s_X11_minute {Q : mmT → Prop} (hm : MS μ m) (hb : 119 ≤ b) (hb2 : b < 2 ^ 26) (h : J b 16 v) (hq : Q (VT μ m (fMinute v))) : w_X11_minute G (VT μ m v) m Q := by
  have hJ := h
  have l0 := h.1.1
  have l1 : v 1 ≤ 4 := l0.1.2.1
  have l2 : v 2 ≤ 16 := l0.1.2.2
  have ht := J_tick h
  have ht0 : J (b + 1) 0 (fTick v) := ⟨InvA_i ht.1 (fun q _ hq => absurd hq (by omega)), ht.2⟩
  have t1 : fTick v 1 = v 1 := up_n (by omega)
  have em : fMinute v = itr fSend (itr fWake (itr fLand (v 1) 0 (fTick v) 2) 0 (itr fLand (v 1) 0 (fTick v)) 1) 0 (itr fWake (itr fLand (v 1) 0 (fTick v) 2) 0 (itr fLand (v 1) 0 (fTick v))) := rfl
  rw [em] at hq
  clear em
  unfold w_X11_minute
  refine ⟨hm.1, rd_s hm (by omega) ⟨vin_s hm (by omega), ?_⟩⟩
  rw [cl (by omega), VT_A, nI_add, VT_sA]
  refine s_X11_minute_l12 (N := v 1) (b := b + 9) (I := fun i w => i ≤ v 1 ∧ w 1 = v 1 ∧ J (b + 1 + 2 * i) 0 w) hm (fun i w hw => hw.2.1) (fun i w hw hi => ?_) l1 0 (fTick v) ⟨by omega, t1, J_mono ht0 (by omega)⟩ (by omega) (fun i1 => ?_)
  · obtain ⟨w1, w2, w3⟩ := hw
    obtain ⟨j1, j2⟩ := J_land (c := i) w3 (by omega) (by omega) (by omega)
    refine ⟨⟨by omega, Bd_mono w3.2.2 (by omega), by omega, fun z => ?_⟩, by omega, by rw [j2]; exact w2, J_mono j1 (by omega)⟩
    obtain ⟨q1, q2, q3, q4, q5⟩ := carried w3 (by omega) (by omega) z
    refine ⟨q1, fun r1 => ?_⟩
    have lw := w3.1.1
    have lw0 := lw.1
    have vp : fPl (up (up w (138 + 2 * i + 1) (w (138 + 2 * i + 1) - 1)) (138 + 2 * i) 0) (nI (w (138 + 2 * i) - 1)) = fPl w (nI (w (138 + 2 * i) - 1)) := fPl_c (by rw [up_n (by omega), up_n (by omega)]) (fun q _ => by rw [up_n (by omega), up_n (by omega)])
    have hu : ∀ j, j ≠ 138 + 2 * i → j ≠ 138 + 2 * i + 1 → up (up w (138 + 2 * i + 1) (w (138 + 2 * i + 1) - 1)) (138 + 2 * i) 0 j = w j := fun j y z => by rw [up_n y, up_n z]
    have hn := lw.2.2 _ q2
    have bB := w3.2.2
    have bc := bB (138 + 2 * i)
    unfold PreArr
    rw [vp, hu 2 (by omega) (by omega), hu _ (by omega) (by omega), hu _ (by omega) (by omega), hu _ (by omega) (by omega)]
    exact ⟨lw0.2.2, q2, by omega, q5, (lw.2.1 _ hn).2.1, Bd_up (Bd_up (Bd_mono bB (by omega)) (by have := bB (138 + 2 * i + 1); omega)) (by omega), by omega, by omega⟩
  · obtain ⟨-, n1, jl⟩ := i1
    have jl2 : J (b + 9) 0 (itr fLand (v 1 - 0) 0 (fTick v)) := J_mono jl (by omega)
    rw [Nat.sub_zero] at n1 jl2 ⊢
    clear jl
    generalize itr fLand (v 1) 0 (fTick v) = x at *
    have lx := jl2.1.1.1
    refine s_X11_minute_l109 (N := x 2) (b := b + 9) (I := fun i w => i ≤ x 2 ∧ w 2 = x 2 ∧ w 1 = v 1 ∧ J (b + 9) i w) hm (fun i w hw => ?_) (by omega) lx.2.2 ⟨by omega, rfl, n1, jl2⟩ (fun i2 => ?_)
    · obtain ⟨w1, w2, w3, w4⟩ := hw
      refine ⟨w2, w4.2.2, fun hi => ⟨fun z _ => (w4.1.2.2.1 i (by omega)).2.2.2.2.1 z, ?_⟩⟩
      obtain ⟨j1, j2, j3⟩ := J_wake (i := i) w4 (by omega) (by omega)
      exact ⟨by omega, by rw [j2]; exact w2, by rw [j3]; exact w3, j1⟩
    · obtain ⟨-, n2, n3, jw⟩ := i2
      generalize itr fWake (x 2) 0 x = y at *
      have jw2 : J (b + 9) 16 y := ⟨InvA_i jw.1 (fun q hq _ => (jw.1.2.2.1 q hq).2.2.2.2.2.2.2 (by omega)), jw.2⟩
      refine s_X11_minute_l194 (N := y 1) (b := b + 13) (I := fun i w => i ≤ y 1 ∧ w 1 = y 1 ∧ J (b + 9 + i) 16 w) hm (fun i w hw => ?_) (by omega) (by omega) ⟨by omega, rfl, J_mono jw2 (by omega)⟩ (fun _ => hq)
      obtain ⟨w1, w2, w3⟩ := hw
      have lw := w3.1.1
      refine ⟨w2, Bd_mono w3.2.2 (by omega), lw.1.2.2, fun hi => ⟨fun z => ?_, ?_⟩⟩
      · have := lw.2.2 _ z
        have := lw.1.1
        omega
      · obtain ⟨j1, j2⟩ := J_send (c := i) w3 (by omega) (by omega)
        exact ⟨by omega, by rw [j2]; exact w2, J_mono j1 (by omega)⟩
/-- minutes -/
def itm : Nat → (Nat → Nat) → Nat → Nat
  | 0, v => v
  | k + 1, v => itm k (fMinute v)
theorem J_itm : ∀ (k b : Nat) (v : Nat → Nat), 119 ≤ b → b + 13 * k < 2 ^ 26 → J b 16 v → J (b + 13 * k) 16 (itm k v)
  | 0, _, _, _, _, h => h
  | k + 1, b, v, hb, hb2, h => J_mono (J_itm k (b + 13) (fMinute v) (by omega) (by omega) (J_minute hb (by omega) h).1) (by omega)
theorem t_pass {Q : Int32 → mmT → Prop} {x : Int32} (hs : SS μ a) (hb : 119 ≤ b) (hb2 : b + 1300 < 2 ^ 26) (hr : Rel S v 4 16) (h : J b 16 v)
    (h1 : ∀ k, 1 ≤ k → k ≤ 100 → x = nI k → ∀ S', Rel S' (itm k v) 4 16 → Q (nI (itm k v 6) - nI (v 6)) (CT μ a S')) (h0 : (∀ k, 1 ≤ k → k ≤ 100 → x ≠ nI k) → Q (-1) (CT μ a S)) : w_X8_pass G (CT μ a S) a x Q := by
  unfold w_X8_pass w_X8_pass_b11
  refine ⟨fun c => h0 (fun k k1 k2 e => ?_), fun c => ⟨fun c2 => ⟨hs.k0, gt hs ?_⟩, fun c2 => h0 (fun k k1 k2 e => ?_)⟩⟩
  · rw [e] at c
    have := (nI_ltI (by omega) (by omega)).mp c
    omega
  · have ek : ∃ k, 1 ≤ k ∧ k ≤ 100 ∧ x = nI k := by
      rcases pk_ix x (n := 101) (by omega) with q | q | ⟨j, hj, q⟩
      · exact absurd (Int32.lt_trans q (nI_lt (a := 0) (by omega) (by omega))) c
      · have a1 := Int32.le_iff_toInt_le.mp q
        have a2 := Int32.le_iff_toInt_le.mp c2
        rw [nI_toInt (by omega)] at a1 a2
        omega
      · refine ⟨j, ?_, by omega, q⟩
        by_cases z : j < 1
        · rw [q] at c
          exact absurd ((nI_ltI (by omega) (by omega)).mpr z) c
        · omega
    obtain ⟨k, k1, k2, rfl⟩ := ek
    have e6 : cF S 257 4 = nI (v 6) := hr.2.1.2.1
    rw [CT_I (by decide), e6]
    have h1' := h1 k k1 k2 rfl
    clear h0 h1 c c2
    generalize hx : nI (v 6) = x6 at *
    clear hx e6
    refine (lpE (W := fun n i => ∀ S w b, 119 ≤ b → b + 13 * (k - i) < 2 ^ 26 → Rel S w 4 16 → J b 16 w → (∀ S', Rel S' (itm (k - i) w) 4 16 → Q (nI (itm (k - i) w 6) - x6) (CT μ a S')) → w_X8_pass_l23 G a Q n (nI k) x6 (nI i) (CT μ a S)) (N := k) ?_ (Nat.zero_le _)).imp fun n hn => hn S v b hb (by omega) hr h h1'
    intro n i hi ih S w b hb hb2 hr h hq
    show w_X8_pass_b23 G a Q _ (nI k) x6 (nI i) (CT μ a S)
    unfold w_X8_pass_b23
    refine pk_le k i (fun c => ⟨hs.k0, gt hs ?_⟩) (fun c => ⟨hs.k0, ?_⟩)
    · have e6 : cF S 257 4 = nI (w 6) := hr.2.1.2.1
      rw [CT_I (by decide), e6]
      rw [show k - i = 0 by omega] at hq
      exact hq S hr
    · rw [CT_I0, hr.1.2.2.2.1, nI_add, CT_sI0]
      refine t_minute hs hb (by omega) hr h (fun S' r => ?_)
      rw [nI_add]
      rw [show k - i = (k - (i + 1)) + 1 by omega] at hq
      exact ih c S' (fMinute w) (b + 13) (by omega) (by omega) r (J_minute hb (by omega) h).1 hq
  · rw [e] at c2
    exact c2 (nI_le (by omega) (by omega))
theorem s_X11_done {Q : Int32 → mmT → Prop} {ν : mmT} {x : Int32} (hk : mK ν m = 11) (h : Q (nI 0) (sI ν 335 m x)) : w_X11_done G ν m x Q := by
  unfold w_X11_done
  exact ⟨hk, h⟩
theorem s_X11_passes {Q : Int32 → mmT → Prop} {x : Int32} (hm : MS μ m) (hb : 119 ≤ b) (hb2 : b + 1300 < 2 ^ 26) (h : J b 16 v)
    (h1 : ∀ k, 1 ≤ k → k ≤ 100 → x = nI k → Q (nI 0) (sI (VT μ m (itm k v)) 335 m (nI (itm k v 6) - nI (v 6)))) (h0 : (∀ k, 1 ≤ k → k ≤ 100 → x ≠ nI k) → Q (nI 1) (VT μ m v)) : w_X11_passes G (VT μ m v) m x Q := by
  unfold w_X11_passes
  refine s_X11_in (fun c1 c2 => ⟨fun _ => ⟨hm.1, rd_s hm (by omega) ?_⟩, fun z => absurd z (by decide)⟩) (fun c => ⟨fun z => absurd rfl z, fun _ => h0 (fun k k1 k2 e => ?_)⟩)
  · have ek : ∃ k, 1 ≤ k ∧ k ≤ 100 ∧ x = nI k := by
      rcases pk_ix x (n := 101) (by omega) with q | q | ⟨j, hj, q⟩
      · exact absurd (Int32.lt_trans q (nI_lt (a := 0) (b := 1) (by omega) (by omega))) (Int32.not_lt.mpr c1)
      · have a1 := Int32.le_iff_toInt_le.mp q
        have a2 := Int32.le_iff_toInt_le.mp c2
        rw [nI_toInt (by omega)] at a1 a2
        omega
      · refine ⟨j, ?_, by omega, q⟩
        rw [q] at c1
        exact (nI_leI (by omega) (by omega)).mp c1
    obtain ⟨k, k1, k2, rfl⟩ := ek
    have h1' := h1 k k1 k2 rfl
    clear h0 h1 c1 c2
    rw [cl (by omega), VT_A]
    generalize nI (v 6) = x6 at *
    refine (lpE (W := fun n i => ∀ w b, 119 ≤ b → b + 13 * (k - i) < 2 ^ 26 → J b 16 w → Q (nI 0) (sI (VT μ m (itm (k - i) w)) 335 m (nI (itm (k - i) w 6) - x6)) → w_X11_passes_l22 G m Q n (nI k) x6 (nI i) (VT μ m w)) (N := k) ?_ (Nat.zero_le _)).imp fun n hn => hn v b hb (by omega) h h1'
    intro n i hi ih w b hb hb2 h hq
    show w_X11_passes_b22 G m Q _ (nI k) x6 (nI i) (VT μ m w)
    unfold w_X11_passes_b22
    refine pk_le k i (fun c => ⟨hm.1, rd_s hm (by omega) (s_X11_done hm.1 ?_)⟩) (fun c => ⟨hm.1, ?_⟩)
    · rw [cl (by omega), VT_A]
      rw [show k - i = 0 by omega] at hq
      exact hq
    · refine s_X11_minute hm hb (by omega) h ?_
      rw [nI_add]
      rw [show k - i = (k - (i + 1)) + 1 by omega] at hq
      exact ih c (fMinute w) (b + 13) (by omega) (by omega) (J_minute hb (by omega) h).1 hq
  · rw [e] at c
    exact c ⟨nI_le (by omega) (by omega), nI_le (by omega) (by omega)⟩
end PASS

section MINW
variable {G : mgT} {μ : mmT} {a m : Nat} {S : cT} {v w : Nat → Nat} {p n i d e t c b : Nat}
theorem itr_J1 {N : Nat} (hb : 119 ≤ b) (hb2 : b < 2 ^ 27) (h : J b 0 v) (hN : v 1 = N) : J (b + 8) 0 (itr fLand N 0 v) ∧ itr fLand N 0 v 1 = N := by
  have l0 := h.1.1.1
  have := itr_I (f := fLand) (I := fun i w => w 1 = N ∧ J (b + 2 * i) 0 w) (N := N) (fun i w hw hi => by
    obtain ⟨j1, j2⟩ := J_land (c := i) hw.2 (by omega) (by omega) (by omega)
    exact ⟨by rw [j2]; exact hw.1, J_mono j1 (by omega)⟩) N 0 v ⟨hN, J_mono h (by omega)⟩ (by omega)
  exact ⟨J_mono this.2 (by omega), this.1⟩
theorem itr_J2 {N M : Nat} (hb : 119 ≤ b) (h : J b 0 v) (hN : v 2 = N) (hM : v 1 = M) : J b 16 (itr fWake N 0 v) ∧ itr fWake N 0 v 2 = N ∧ itr fWake N 0 v 1 = M := by
  have l0 := h.1.1.1
  have := itr_I (f := fWake) (I := fun i w => w 2 = N ∧ w 1 = M ∧ J b i w) (N := N) (fun i w hw hi => by
    obtain ⟨j1, j2, j3⟩ := J_wake (i := i) hw.2.2 (by omega) (by omega)
    exact ⟨by rw [j2]; exact hw.1, by rw [j3]; exact hw.2.1, j1⟩) N 0 v ⟨hN, hM, h⟩ (by omega)
  obtain ⟨q1, q2, q3⟩ := this
  exact ⟨⟨InvA_i q3.1 (fun q hq _ => (q3.1.2.2.1 q hq).2.2.2.2.2.2.2 (by omega)), q3.2⟩, q1, q2⟩
theorem itr_J3 {N : Nat} (hb : 119 ≤ b) (h : J b 16 v) (hN : v 1 = N) : J (b + 4) 16 (itr fSend N 0 v) ∧ itr fSend N 0 v 1 = N := by
  have l0 := h.1.1.1
  have := itr_I (f := fSend) (I := fun i w => w 1 = N ∧ J (b + i) 16 w) (N := N) (fun i w hw hi => by
    obtain ⟨j1, j2⟩ := J_send (c := i) hw.2 (by omega) (by omega)
    exact ⟨by rw [j2]; exact hw.1, J_mono j1 (by omega)⟩) N 0 v ⟨hN, J_mono h (by omega)⟩ (by omega)
  exact ⟨J_mono this.2 (by omega), this.1⟩
theorem J_minute (hb : 119 ≤ b) (hb2 : b < 2 ^ 26) (h : J b 16 v) : J (b + 13) 16 (fMinute v) ∧ fMinute v 1 = v 1 := by
  have ht := J_tick h
  have ht0 : J (b + 1) 0 (fTick v) := ⟨InvA_i ht.1 (fun q _ hq => absurd hq (by omega)), ht.2⟩
  have t1 : fTick v 1 = v 1 := up_n (by omega)
  obtain ⟨j1, n1⟩ := itr_J1 (b := b + 1) (by omega) (by omega) ht0 t1
  obtain ⟨j2, n2, n3⟩ := itr_J2 (by omega) j1 rfl n1
  obtain ⟨j3, n4⟩ := itr_J3 (by omega) j2 rfl
  exact ⟨J_mono j3 (by omega), n4.trans n3⟩
/-- the class's minute -/
theorem t_minute {Q : mmT → Prop} (hs : SS μ a) (hb : 119 ≤ b) (hb2 : b < 2 ^ 26) (hr : Rel S v 4 16) (h : J b 16 v) (hq : ∀ S', Rel S' (fMinute v) 4 16 → Q (CT μ a S')) :
    w_X8_landCrows G (CT μ a (fI S 231 0 (nI (v 4 + 1)))) a (fun μ13 => mK μ13 a = 8 ∧ w_X8_wakeMessages G μ13 a (fun μ15 => mK μ15 a = 8 ∧ w_X8_sendCrows G μ15 a Q)) := by
  have hJ := h
  have l0 := h.1.1
  have l1 : v 1 ≤ 4 := l0.1.2.1
  have l2 : v 2 ≤ 16 := l0.1.2.2
  have ht := J_tick h
  have ht0 : J (b + 1) 0 (fTick v) := ⟨InvA_i ht.1 (fun q _ hq => absurd hq (by omega)), ht.2⟩
  have t1 : fTick v 1 = v 1 := up_n (by omega)
  have r0 : Rel (fI S 231 0 (nI (v 4 + 1))) (fTick v) 0 0 := by
    obtain ⟨rS, rT, rN, rC, rM, rP, rZ⟩ := hr
    have u : ∀ j, j ≠ 4 → fTick v j = v j := fun j y => up_n y
    have u4 : fTick v 4 = v 4 + 1 := up_s _ _ _
    refine ⟨⟨?_, ?_, ?_, ?_, ?_⟩, RelT_c rT (fun j z y => u j (by omega)) (fun F z y => fI_o (by omega)), RelN_c rN l0 (u _ (by omega)) (fun j z y => u j (by omega)) (fun F k z y => fI_o (by omega)) rfl, fun c hc => ?_, fun p hp => ?_, RelP_c rP rfl, RelZ_c rZ (fun k => fI_o (by omega)) (fun k => fI_o (by omega))⟩
    · rw [fI_o (by omega), u _ (by omega)]; exact rS.1
    · rw [fI_o (by omega), u _ (by omega)]; exact rS.2.1
    · rw [fI_o (by omega), u _ (by omega)]; exact rS.2.2.1
    · rw [fI_s, u4]
    · rw [fI_o (by omega), u _ (by omega)]; exact rS.2.2.2.2
    · rw [u _ (by omega)] at hc
      have r := rC c hc
      rw [u4, u _ (by omega), u _ (by omega), fI_o (by omega), fI_o (by omega), fI_o (by omega)]
      refine ⟨r.1, fun z => ⟨(r.2 z).1, ?_⟩⟩
      rw [(r.2 z).2, if_neg (by omega), if_pos (by omega)]
      congr 1
      omega
    · rw [u _ (by omega)] at hp
      have r := rM p hp
      have f0 := (h.1.2.2.1 p hp).2.2.2.2.2.2.2 (by omega)
      rw [u4, u _ (by omega), u _ (by omega), u _ (by omega), u _ (by omega), u _ (by omega), u _ (by omega), u _ (by omega), fI_o (by omega), fI_o (by omega), fI_o (by omega), fI_o (by omega), fI_o (by omega), fI_o (by omega)]
      refine ⟨r.1, fun z => ?_⟩
      rw [show cP (fI S 231 0 (nI (v 4 + 1))) = cP S from rfl, r.2 z, if_neg (by omega), if_pos ⟨by omega, f0⟩]
      congr 1
      omega
  refine t_landCrows (N := v 1) (b := b + 9) (I := fun i w => i ≤ v 1 ∧ w 1 = v 1 ∧ J (b + 1 + 2 * i) 0 w) hs (by omega) (fun i w hw => ?_) ⟨by omega, t1, J_mono ht0 (by omega)⟩ r0 (fun S1 i1 r1 => ⟨hs.k0, ?_⟩)
  · obtain ⟨w1, w2, w3⟩ := hw
    refine ⟨w2, ⟨w3.1.1, Bd_mono w3.2.2 (by omega), fun hi z => ?_⟩, fun hi => ?_⟩
    · obtain ⟨q1, q2, q3, q4, q5⟩ := carried w3 (by omega) hi z
      exact ⟨q1, q2, q5⟩
    · obtain ⟨j1, j2⟩ := J_land (c := i) w3 (by omega) (by omega) (by omega)
      exact ⟨by omega, by rw [j2]; exact w2, J_mono j1 (by omega)⟩
  · obtain ⟨-, n1, jl⟩ := i1
    have jl2 : J (b + 9) 0 (itr fLand (v 1) 0 (fTick v)) := J_mono jl (by omega)
    have em : fMinute v = itr fSend (itr fWake (itr fLand (v 1) 0 (fTick v) 2) 0 (itr fLand (v 1) 0 (fTick v)) 1) 0 (itr fWake (itr fLand (v 1) 0 (fTick v) 2) 0 (itr fLand (v 1) 0 (fTick v))) := rfl
    rw [em] at hq
    clear em jl
    generalize itr fLand (v 1) 0 (fTick v) = x at *
    have lx := jl2.1.1.1
    refine t_wakeMessages (N := x 2) (b := b + 9) (I := fun i w => i ≤ x 2 ∧ w 2 = x 2 ∧ w 1 = v 1 ∧ J (b + 9) i w) hs (by omega) (fun i w hw => ?_) ⟨by omega, rfl, n1, jl2⟩ r1 (fun S2 i2 r2 => ⟨hs.k0, ?_⟩)
    · obtain ⟨w1, w2, w3, w4⟩ := hw
      refine ⟨w2, ⟨w4.1.1, w4.2.2, fun hi z => ?_⟩, fun hi => ?_⟩
      · have q := w4.1.2.2.1 i hi
        exact ⟨q.2.2.2.2.1 z, q.2.2.2.2.2.1⟩
      · obtain ⟨j1, j2, j3⟩ := J_wake (i := i) w4 (by omega) (by omega)
        exact ⟨by omega, by rw [j2]; exact w2, by rw [j3]; exact w3, j1⟩
    · obtain ⟨-, n2, n3, jw⟩ := i2
      generalize itr fWake (x 2) 0 x = y at *
      have jw2 : J (b + 9) 16 y := ⟨InvA_i jw.1 (fun q hq _ => (jw.1.2.2.1 q hq).2.2.2.2.2.2.2 (by omega)), jw.2⟩
      have r3 : Rel S2 y 4 16 := Rel_rest r2 (by omega) (by omega) (by omega) (by omega)
      refine t_sendCrows (N := y 1) (b := b + 13) (I := fun i w => i ≤ y 1 ∧ w 1 = y 1 ∧ J (b + 9 + i) 16 w) hs (by omega) (fun i w hw => ?_) ⟨by omega, rfl, J_mono jw2 (by omega)⟩ r3 (fun S3 _ r4 => hq S3 r4)
      obtain ⟨w1, w2, w3⟩ := hw
      refine ⟨w2, ⟨w3.1.1, Bd_mono w3.2.2 (by omega), fun p hp z => (w3.1.2.2.1 p hp).2.1 (by omega)⟩, fun hi => ?_⟩
      obtain ⟨j1, j2⟩ := J_send (c := i) w3 (by omega) (by omega)
      exact ⟨by omega, by rw [j2]; exact w2, J_mono j1 (by omega)⟩
end MINW

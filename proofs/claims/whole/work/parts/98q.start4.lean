/-! THE START: what holds before the first turn -/
def Fx (μ : mmT) : mmT := (mK μ, mN μ, mI μ, mR μ, mA μ, fun b i => if mK μ b = 39 ∧ 16 ≤ i then some (b + (24 + i)) else mB μ b i, mL μ, mD μ)
section START4
variable {G : mgT} {μ ν ρ μ0 : mmT} {z a b c i j k F n o L : Nat} {xs : Nat → Int32}
theorem Fx_B (h : ¬ (mK μ b = 39 ∧ 16 ≤ i)) : mB (Fx μ) b i = mB μ b i := if_neg h
theorem Fx_Be (h : mK μ b = 39 ∧ 16 ≤ i) : mB (Fx μ) b i = some (b + (24 + i)) := if_pos h
def v00 : Nat → Nat := fun _ => 0
theorem JB_00 : JB 119 0 v00 :=
  ⟨⟨⟨⟨⟨Nat.zero_le _, Nat.zero_le _, Nat.zero_le _⟩, fun n hn => absurd hn (Nat.not_lt_zero _), fun n hn => absurd hn (Nat.not_lt_zero _)⟩, ⟨fun n hn => absurd hn (Nat.not_lt_zero _), fun n q _ hn => absurd hn (Nat.not_lt_zero _)⟩, fun n hn => absurd hn (Nat.not_lt_zero _), ⟨fun n hn => absurd hn (Nat.not_lt_zero _), fun n q _ hn => absurd hn (Nat.not_lt_zero _)⟩, ⟨fun n k hn => absurd hn (Nat.not_lt_zero _), fun n k q hn => absurd hn (Nat.not_lt_zero _)⟩, rfl, rfl⟩, rfl, fun k => Nat.zero_le _⟩, Nat.le_refl _, fun n hn => absurd hn (Nat.not_lt_zero _)⟩
theorem SS_00 (h : SI μ a) : SS (Fx μ) a := by
  obtain ⟨⟨⟨b1, b2, b3, b4⟩, -, -⟩, h2, h3, h4⟩ := h
  refine ⟨b1, b2, b3, b4, fun i hi => ?_, fun i hi => ?_, fun k hk => (h4 k hk).2.1⟩
  · rw [Fx_B (by omega)]; exact h2 i hi
  · rw [Fx_B (by omega)]; exact ⟨(h3 i hi).1, (h3 i hi).2.1⟩
theorem St_00 (h : SI μ a) : St (Fx μ) a v00 := by
  obtain ⟨⟨⟨b1, b2, b3, b4⟩, c1, c2⟩, h2, h3, h4⟩ := h
  refine ⟨(fun F k => mI μ F (a + k), fun k i => mA μ (a + k) i, fun i => i), ⟨fun F k _ => rfl, fun k i _ => rfl, fun i => ?_⟩, c1, c2, fun n hn => absurd hn (Nat.not_lt_zero _), fun n hn => absurd hn (Nat.not_lt_zero _), fun n hn => absurd hn (Nat.not_lt_zero _), fun p hp => ⟨hp, fun q _ e => e⟩, fun k hk => ?_, fun c hc => Or.inl (h3 c hc).2.2⟩
  · by_cases e : i < 16
    · rw [Fx_B (by omega)]; exact (h4 i e).1
    · rw [Fx_Be ⟨b3.2.2.1, by omega⟩]
      show some (a + 3 + (24 + i)) = some (a + (27 + i))
      rw [show a + 3 + (24 + i) = a + (27 + i) by omega]
  · show isCh (mI μ 132 (a + (27 + k)))
    rw [(h4 k hk).2.2]
    exact isCh_n (by decide)
theorem ok_00 (hz : ZO μ z) (ha : ZA μ z) (hm : MO μ (z + 584)) (h0 : ∀ i, mA μ (z + 585) i = 0) (hi : ∀ F, F ≠ 333 → F ≠ 334 → mI μ F (z + 584) = 0) (h33 : mI μ 333 (z + 584) = -1) (h34 : mI μ 334 (z + 584) = -1) (hl : mK μ (z + 593) = 35 ∧ mN μ (z + 593) = 1 ∧ mK μ (z + 594) = 36 ∧ mN μ (z + 594) = 1) : Ok (Fx μ) z 119 0 := by
  obtain ⟨s1, s2, s3, s4, ⟨b5, l5⟩, ⟨b6, l6⟩, o7⟩ := ha
  have hh : ∀ i, i < 8 → mB μ (z + 174) i = some (z + (175 + 43 * i)) ∧ SI μ (z + (175 + 43 * i)) := fun i q => by
    have := l5 i q
    rw [show z + 173 + (2 + 43 * i) = z + (175 + 43 * i) by omega] at this
    exact this
  have ht : ∀ i, i < 60 → mB μ (z + 521) i = some (z + (522 + i)) ∧ mK μ (z + (522 + i)) = 2 := fun i q => by
    have := l6 i q
    rw [show z + 519 + (3 + i) = z + (522 + i) by omega] at this
    exact this
  have k174 : mK μ (z + 174) = 41 := b5.2.2.1
  have k521 : mK μ (z + 521) = 37 := b6.2.2.2.2.2.1
  have n0 : ∀ F, F ≠ 333 → F ≠ 334 → mI μ F (z + 584) = nI 0 := hi
  refine ⟨⟨⟨SS_00 s1, SS_00 s2, SS_00 s3, SS_00 s4, fun i q => SS_00 (hh i q).2⟩, hz.1, ⟨b5.1, b5.2.1, b5.2.2.1, b5.2.2.2.1, fun i q => ?_⟩, ⟨b6.1, b6.2.1, b6.2.2.1, b6.2.2.2.1, b6.2.2.2.2.1, b6.2.2.2.2.2.1, b6.2.2.2.2.2.2.1, fun i q => ?_⟩, ⟨o7.1, o7.2.1, o7.2.2.1, o7.2.2.2.1⟩, hm, hl⟩,
    v00, 0, fun _ => v00, ((0, v00), ((0, v00), ((-1, -1), (0, v00)))), ⟨⟨St_00 s1, (St_00 s2).f, (St_00 s3).f, 0, ⟨b5.2.2.2.2.1, b5.2.2.2.2.2, by decide, by decide⟩, fun i q => ?_⟩, ⟨hz.2.1, (St_00 s4).f, fun q => absurd q (by decide)⟩, ⟨b6.2.2.2.2.2.2.2, fun i q => absurd q (Nat.not_lt_zero _)⟩, ⟨hz.2.2.1, hz.2.2.2⟩, ⟨o7.2.2.2.2.1, o7.2.2.2.2.2, fun i q => absurd q (Nat.not_lt_zero _)⟩⟩,
    ⟨⟨h0, n0 _ (by decide) (by decide), fun k q => absurd q (Nat.not_lt_zero _)⟩, ⟨n0 _ (by decide) (by decide), fun q => absurd q (by decide)⟩, ⟨n0 _ (by decide) (by decide), fun i q => absurd q (Nat.not_lt_zero _)⟩, ⟨h33, h34⟩, ⟨n0 _ (by decide) (by decide), fun i q => absurd q (Nat.not_lt_zero _)⟩⟩,
    ⟨JB_00, Nat.zero_le _, fun k q => absurd q (Nat.not_lt_zero _)⟩, ⟨Nat.zero_le _, fun q => absurd q (by decide), Nat.zero_le _, fun i q => absurd q (Nat.not_lt_zero _), Nat.zero_le _, fun i q => absurd q (Nat.not_lt_zero _)⟩⟩
  · rw [Fx_B (by rw [k174]; omega)]; exact (hh i q).1
  · rw [Fx_B (by rw [k521]; omega)]; exact ht i q
  · obtain ⟨S, q1, q2⟩ := St_00 (hh i q).2
    exact ⟨S, q1, ⟨q2.2.2.2.2.2.1, q2.2.2.2.2.2.2⟩, fun k q => absurd q (Nat.not_lt_zero _)⟩
/-- the law from the start: behind the constructors the loop is entered at Fx -/
def w_law2 (G : mgT) (o : Nat) (L : Nat) (xs : Nat → Int32) (μ : mmT) (z : Nat) : Prop :=
  (mK (nO μ z 9) z = 10 ∧ (w_X10_init G (nO μ z 9) (z + 1) z (fun μ2 z3 => (mK (nO μ2 z3 10) z3 = 11 ∧ (w_X11_init G (nO μ2 z3 10) (z3 + 1) z3 (fun μ5 z6 => (M39 (nA (nA μ5 z6 3 1) (z6 + 1) 4 1) ∧ ∃ n, w_L_law_l28 G o L xs n (some z) (some z3) (some z6) (some (z6 + 1)) (nI 0) 0 (Fx (nA (nA μ5 z6 3 1) (z6 + 1) 4 1)))))))))
theorem law2 (hL : L ≤ 1536) (hm : M39 μ) : w_law2 G o L xs μ z := by
  unfold w_law2
  refine ⟨nO_Ke, n_X10 (o := z) nO_Ke (M39_nO hm (by decide)) (fun μ2 g2 m2 z2 a2 => ⟨nO_Ke, n_X11 (o := z + 584) nO_Ke (fun F => nO_Ie) (M39_nO m2 (by decide)) (fun μ5 g5 m5 mo h0 hi h33 h34 => ?_)⟩)⟩
  have g6 : Fr (z + 584) μ2 μ5 := (Fr_nO (Nat.le_refl _)).tr g5
  have z5 := ZO_fr z2 g6 (by omega)
  have a5 := ZA_fr a2 g6 (by omega)
  have m6 : M39 (nA μ5 (z + 584 + 9) 3 1) := M39_nA m5 (fun q => absurd q (by decide))
  have f6 : Fr (z + 593) μ5 (nA μ5 (z + 584 + 9) 3 1) := Fr_nA (Nat.le_refl _)
  have l6 : mK (nA μ5 (z + 584 + 9) 3 1) (z + 593) = 35 ∧ mN (nA μ5 (z + 584 + 9) 3 1) (z + 593) = 1 := ⟨nA_Ke (μ := μ5) (j := 3) (n := 1), nA_Ne (μ := μ5) (j := 3) (n := 1)⟩
  generalize nA μ5 (z + 584 + 9) 3 1 = μ6 at *
  have m7 : M39 (nA μ6 (z + 584 + 9 + 1) 4 1) := M39_nA m6 (fun q => absurd q (by decide))
  have f7 : Fr (z + 594) μ6 (nA μ6 (z + 584 + 9 + 1) 4 1) := Fr_nA (Nat.le_refl _)
  have l7 : mK (nA μ6 (z + 584 + 9 + 1) 4 1) (z + 594) = 36 ∧ mN (nA μ6 (z + 584 + 9 + 1) 4 1) (z + 594) = 1 := ⟨nA_Ke (μ := μ6) (j := 4) (n := 1), nA_Ne (μ := μ6) (j := 4) (n := 1)⟩
  generalize nA μ6 (z + 584 + 9 + 1) 4 1 = μ7 at *
  have f8 : Fr (z + 593) μ5 μ7 := f6.tr (f7.dn (by omega))
  have mo7 : MO μ7 (z + 584) := by
    unfold MO at mo ⊢
    rw [f8.kk (by omega), f8.kk (by omega), f8.kk (by omega), f8.kk (by omega), f8.kk (by omega), f8.kk (by omega), f8.kk (by omega), f8.kk (by omega), f8.kk (by omega), f8.nn (by omega), f8.nn (by omega), f8.nn (by omega), f8.nn (by omega), f8.nn (by omega), f8.nn (by omega), f8.nn (by omega), f8.nn (by omega), f8.rr (by omega), f8.rr (by omega), f8.rr (by omega), f8.rr (by omega), f8.rr (by omega), f8.rr (by omega), f8.rr (by omega), f8.rr (by omega)]
    exact mo
  refine ⟨m7, 513, lp hL 512 0 (Fx μ7) (by decide) (ok_00 (ZO_fr z5 f8 (by omega)) (ZA_fr a5 f8 (by omega)) mo7 (fun i => (f8.aa (by omega)).trans (h0 i)) (fun F a b => (f8.ii (by omega)).trans (hi F a b)) ((f8.ii (by omega)).trans h33) ((f8.ii (by omega)).trans h34) ⟨(f7.kk (by omega)).trans l6.1, (f7.nn (by omega)).trans l6.2, l7⟩)⟩
end START4

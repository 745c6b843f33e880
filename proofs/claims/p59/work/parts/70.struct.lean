/-! THE TWO OBJECTS' SHAPE -/
def ST (μ : mmT) (z : Nat) : Prop := (SS μ (z + 1) ∧ SS μ (z + 44) ∧ SS μ (z + 87) ∧ SS μ (z + 130) ∧ ∀ i, i < 8 → SS μ (z + (175 + 43 * i))) ∧
  (mK μ z = 10 ∧ mR μ 288 z = some (z + 1) ∧ mR μ 289 z = some (z + 44) ∧ mR μ 290 z = some (z + 87) ∧ mR μ 291 z = some (z + 130) ∧ mR μ 292 z = some (z + 173) ∧ mR μ 293 z = some (z + 519) ∧ mR μ 294 z = some (z + 582)) ∧
  (mK μ (z + 173) = 4 ∧ mR μ 96 (z + 173) = some (z + 174) ∧ mK μ (z + 174) = 41 ∧ mN μ (z + 174) = 8 ∧ ∀ i, i < 8 → mB μ (z + 174) i = some (z + (175 + 43 * i))) ∧
  (mK μ (z + 519) = 7 ∧ mR μ 192 (z + 519) = some (z + 520) ∧ mR μ 193 (z + 519) = some (z + 521) ∧ mK μ (z + 520) = 33 ∧ mN μ (z + 520) = 60 ∧ mK μ (z + 521) = 37 ∧ mN μ (z + 521) = 60 ∧ ∀ i, i < 60 → mB μ (z + 521) i = some (z + (522 + i)) ∧ mK μ (z + (522 + i)) = 2) ∧
  (mK μ (z + 582) = 1 ∧ mR μ 0 (z + 582) = some (z + 583) ∧ mK μ (z + 583) = 32 ∧ mN μ (z + 583) = 16)
section STR
variable {G : mgT} {μ ν ρ : mmT} {z a b c m i F : Nat} {S S2 : cT} {v w : Nat → Nat} {P P2 : Nat → Prop} {B N : Nat}
theorem R0_1 : R0 z (z + 1 + 3) := Or.inl (by omega)
theorem R0_2 : R0 z (z + 44 + 3) := Or.inr (Or.inl (by omega))
theorem R0_3 : R0 z (z + 87 + 3) := Or.inr (Or.inr (Or.inl (by omega)))
theorem R0_4 : R0 z (z + 130 + 3) := Or.inr (Or.inr (Or.inr (Or.inl (by omega))))
theorem R0_5 (h : i < 8) : R0 z (z + (175 + 43 * i) + 3) := Or.inr (Or.inr (Or.inr (Or.inr ⟨i, h, rfl⟩)))
theorem nR (h : ¬ (b = z + 4 ∨ b = z + 47 ∨ b = z + 90 ∨ b = z + 133)) (h2 : ∀ i, i < 8 → b ≠ z + (175 + 43 * i) + 3) : ¬ R0 z b := fun q => by
  rcases q with q | q | q | q | ⟨i, hi, q⟩
  · exact h (Or.inl q)
  · exact h (Or.inr (Or.inl q))
  · exact h (Or.inr (Or.inr (Or.inl q)))
  · exact h (Or.inr (Or.inr (Or.inr q)))
  · exact h2 i hi q
theorem ST.ag (h : ST μ z) (g : Ag z μ ν P) : ST ν z := by
  obtain ⟨⟨h1, h2, h3, h4, h5⟩, hZ, hH, hT, hO⟩ := h
  refine ⟨⟨SS_ag h1 g (nR (by omega) (fun i hi => by omega)) (nR (by omega) (fun i hi => by omega)), SS_ag h2 g (nR (by omega) (fun i hi => by omega)) (nR (by omega) (fun i hi => by omega)), SS_ag h3 g (nR (by omega) (fun i hi => by omega)) (nR (by omega) (fun i hi => by omega)), SS_ag h4 g (nR (by omega) (fun i hi => by omega)) (nR (by omega) (fun i hi => by omega)), fun i hi => SS_ag (h5 i hi) g (nR (by omega) (fun j hj => by omega)) (nR (by omega) (fun j hj => by omega))⟩, ?_, ?_, ?_, ?_⟩
  · rw [g.k, g.r]; exact hZ
  · rw [g.k, g.r, g.n]
    obtain ⟨q1, q2, q3, q4, q5⟩ := hH
    exact ⟨q1, q2, q3, q4, fun i hi => (g.B0 (nR (by omega) (fun j hj => by omega))).trans (q5 i hi)⟩
  · rw [g.k, g.r, g.n]
    obtain ⟨q1, q2, q3, q4, q5, q6, q7, q8⟩ := hT
    exact ⟨q1, q2, q3, q4, q5, q6, q7, fun i hi => ⟨(g.B0 (nR (by omega) (fun j hj => by omega))).trans (q8 i hi).1, (q8 i hi).2⟩⟩
  · rw [g.k, g.r, g.n]; exact hO
theorem ST.s1 (h : ST μ z) : SS μ (z + 1) := h.1.1
theorem ST.s2 (h : ST μ z) : SS μ (z + 44) := h.1.2.1
theorem ST.s3 (h : ST μ z) : SS μ (z + 87) := h.1.2.2.1
theorem ST.s4 (h : ST μ z) : SS μ (z + 130) := h.1.2.2.2.1
theorem ST.s5 (h : ST μ z) (hi : i < 8) : SS μ (z + (175 + 43 * i)) := h.1.2.2.2.2 i hi
theorem ST.kz (h : ST μ z) : mK μ z = 10 := h.2.1.1
theorem ST.z1 (h : ST μ z) : mR μ 288 z = some (z + 1) := h.2.1.2.1
theorem ST.z2 (h : ST μ z) : mR μ 289 z = some (z + 44) := h.2.1.2.2.1
theorem ST.z3 (h : ST μ z) : mR μ 290 z = some (z + 87) := h.2.1.2.2.2.1
theorem ST.z4 (h : ST μ z) : mR μ 291 z = some (z + 130) := h.2.1.2.2.2.2.1
theorem ST.z5 (h : ST μ z) : mR μ 292 z = some (z + 173) := h.2.1.2.2.2.2.2.1
theorem ST.z6 (h : ST μ z) : mR μ 293 z = some (z + 519) := h.2.1.2.2.2.2.2.2.1
theorem ST.z7 (h : ST μ z) : mR μ 294 z = some (z + 582) := h.2.1.2.2.2.2.2.2.2
theorem ST.h (h : ST μ z) : mK μ (z + 173) = 4 := h.2.2.1.1
theorem ST.h1 (h : ST μ z) : mR μ 96 (z + 173) = some (z + 174) := h.2.2.1.2.1
theorem ST.h2 (h : ST μ z) : mK μ (z + 174) = 41 := h.2.2.1.2.2.1
theorem ST.h3 (h : ST μ z) : mN μ (z + 174) = 8 := h.2.2.1.2.2.2.1
theorem ST.h4 (h : ST μ z) (hi : i < 8) : mB μ (z + 174) i = some (z + (175 + 43 * i)) := h.2.2.1.2.2.2.2 i hi
theorem ST.t (h : ST μ z) : mK μ (z + 519) = 7 ∧ mR μ 192 (z + 519) = some (z + 520) ∧ mR μ 193 (z + 519) = some (z + 521) ∧ mK μ (z + 520) = 33 ∧ mN μ (z + 520) = 60 ∧ mK μ (z + 521) = 37 ∧ mN μ (z + 521) = 60 ∧ ∀ i, i < 60 → mB μ (z + 521) i = some (z + (522 + i)) ∧ mK μ (z + (522 + i)) = 2 := h.2.2.2.1
theorem ST.o (h : ST μ z) : mK μ (z + 582) = 1 ∧ mR μ 0 (z + 582) = some (z + 583) ∧ mK μ (z + 583) = 32 ∧ mN μ (z + 583) = 16 := h.2.2.2.2
end STR

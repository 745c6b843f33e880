/-! THE LAW: WHAT IS FORESEEN; TAKING BACK, SAVING -/
section LAW31
variable {G : mgT} {μ ν ρ σ : mmT} {z a b c c2 m i F nx ct t o L : Nat} {S S2 : cT} {v w v0 : Nat → Nat} {V : Nat → Nat → Nat} {R : rT} {B B2 : Nat} {x : Int32} {xs : Nat → Int32} {K : Option Nat → Option Nat → Option Nat → Option Nat → Int32 → Nat → mmT → Prop}
theorem t_until {Q : Int32 → mmT → Prop} {X : String → mmT → Prop} (hT : ST μ z) (hI : ICv μ z v ct V) (h : J B 16 v) (hb : 119 ≤ B) (hb2 : B + 2600 < 2 ^ 26)
    (h1 : fPl v x < v 2 → v (146 + 7 * fPl v x + 4) ≠ 100 → fUD x 100 1 v ≠ 0 → ∀ ν, Ag z μ ν (fun b => z + 87 ≤ b ∧ b < z + 130) → ICv ν z v ct V → Q (nI (fUD x 100 1 v)) ν)
    (h3 : fPl v x < v 2 → v (146 + 7 * fPl v x + 4) ≠ 100 → fUD x 100 1 v = 0 → ∀ ν, Ag z μ ν (fun b => z + 87 ≤ b ∧ b < z + 130) → ICv ν z v ct V → X "java/lang/IllegalStateException" ν)
    (h2 : fPl v x < v 2 → v (146 + 7 * fPl v x + 4) = 100 → X "java/lang/IllegalStateException" μ) (h0 : ¬ fPl v x < v 2 → X "java/util/NoSuchElementException" μ) : w_X10_minutesUntilDelivered G μ z x Q X := by
  have l := h.1.1
  have hs := hI.1
  obtain ⟨S, e1, r1⟩ := hs
  unfold w_X10_minutesUntilDelivered
  refine ⟨hT.kz, ?_⟩
  have := x_msg (G := G) (x := x) (Q := fun ru2 => ∃ a3, ru2 = some a3 ∧ (mK μ a3 = 5 ∧ ((¬ (mI μ 132 a3) = (nI 100) → (w_X10_foreseenMinutes G μ z x (fun u7 μ8 => ((¬ u7 = (-1) → (Q u7 μ8)) ∧ (u7 = (-1) → (X "java/lang/IllegalStateException" μ8)))))) ∧ ((mI μ 132 a3) = (nI 100) → (X "java/lang/IllegalStateException" μ))))) (X := fun E => X E μ) hT r1 l (fun q => ?_) h0
  · rw [BT_self e1] at this
    exact this
  · have hc := rel_P r1 l q
    have bs := h.2.2 (146 + 7 * fPl v x + 4)
    have es : mI μ 132 (z + 1 + (27 + cP S (fPl v x))) = nI (v (146 + 7 * fPl v x + 4)) := (e1.1 132 (27 + cP S (fPl v x)) (by omega)).trans (r1.2.2.2.2.1 _ q).1.2.2.2.2
    refine ⟨_, rfl, hT.s1.mk (S := S) hc, fun c => ?_, fun c => ?_⟩
    · rw [es] at c
      have c' : v (146 + 7 * fPl v x + 4) ≠ 100 := fun e => c (by rw [e])
      refine t_foreseen hT hI.1 hI.2.2.1 h hb hb2 (fun ν g s => ?_)
      have iv : ICv ν z v ct V := ⟨St_ag hI.1 g (fun b h1 h2 q => by omega), Sf_ag hI.2.1 g (fun b h1 h2 q => by omega), s, hI.2.2.2.imp fun _ q => HC_ag q g (fun b h1 h2 q => by omega)⟩
      by_cases r : fUD x 100 1 v = 0
      · rw [if_pos r]
        exact ⟨fun q => absurd rfl q, fun _ => h3 q c' r ν g iv⟩
      · rw [if_neg r]
        have := fUD_le 100 1 v (x := x) (by decide)
        exact ⟨fun _ => h1 q c' r ν g iv, fun e => absurd e (nI_m1 (by omega))⟩
    · rw [es] at c
      exact h2 q (nI_inj (by omega) (by decide) c)
end LAW31

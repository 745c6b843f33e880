section STEP
variable {G : mgT} {μ : mmT} {a : Nat} {S : cT} {v w : Nat → Nat} {p n i d e t c b : Nat}
theorem Bd_ceases (h : Bd b v) : Bd b (fCeases v p) := fun k => by
  have h2 := h 2
  unfold fCeases
  split
  · omega
  · split
    · exact h _
    · split
      · omega
      · exact h k
theorem Bd_learns {key : Nat} (h : Bd b v) (hk : key ≤ b) (h8 : v (12 + 21 * n + 11) ≤ 8) (hb : 9 ≤ b) : Bd b (fLearns v n key) := by
  unfold fLearns
  split
  · intro k
    show (if _ then _ else _) ≤ b
    split
    · exact h _
    · split
      · exact hk
      · exact h k
  · exact Bd_up (Bd_up h hk) (by omega)
theorem Bd_arr (h : Bd b v) (hb : 110 ≤ b) (ht : v (146 + 7 * p + 3) ≤ 4) (hn : v (146 + 7 * p + 1) < 6) (h8 : v (12 + 21 * v (146 + 7 * p + 1) + 11) ≤ 8) : Bd (b + 2) (fArrP v p) := by
  have b10 := h 10
  have bw : Bd (b + 1) (fArr1 v p) := Bd_up (Bd_up (Bd_mono h (by omega)) (by omega)) (by omega)
  have bw2 : Bd (b + 2) (fArr1 v p) := Bd_mono bw (by omega)
  have w : ∀ j, fArr1 v p j + 1 ≤ b + 2 := fun j => by have := bw j; omega
  unfold fArrP
  dsimp only
  split
  · exact Bd_ceases (Bd_up bw2 (w 8))
  · split
    · unfold fDeliv
      refine Bd_learns ?_ (bw2 _) ?_ (by omega)
      · exact Bd_up (Bd_up (Bd_up (Bd_up (Bd_up bw2 (by omega)) (bw2 _)) (w _)) (w _)) (w _)
      · rename_i h1 h2
        rw [up_n (by omega), up_n (by omega), up_n (by omega), up_n (by omega), up_n (by omega), fArr1_o (by omega) (by omega)]
        exact h8
    · split
      · exact Bd_ceases (Bd_up bw2 (w 9))
      · unfold fNap
        have p2 : 2 ^ (v (146 + 7 * p + 3) + 1) ≤ 2 ^ 5 := Nat.pow_le_pow_right (by decide) (by omega)
        exact Bd_up (Bd_up (Bd_up bw2 (by omega)) (by omega)) (by omega)
theorem fPl_id (h : IdI v) (hb : Bd b v) (hb2 : b < 2 ^ 31) (hp : p < v 2) : fPl v (nI (v (146 + 7 * p))) = p :=
  ff_at hp (decide_eq_true rfl) (fun j hj => decide_eq_false (fun z => by
    have b1 := hb (146 + 7 * j)
    have b2 := hb (146 + 7 * p)
    have := (nI_eq (by omega) (by omega)).mp z
    have := h.2 j p hj hp
    omega))
def J (b i : Nat) (v : Nat → Nat) : Prop := InvA v i 0 0 ∧ v 2 + tot v = v 3 ∧ Bd b v
theorem J_mono {b2 : Nat} (h : J b i v) (hb : b ≤ b2) : J b2 i v := ⟨h.1, h.2.1, Bd_mono h.2.2 hb⟩
theorem InvA_i {i2 : Nat} (h : InvA v i d e) (hi : ∀ q, q < v 2 → q < i2 → v (146 + 7 * q + 6) = 0) : InvA v i2 d e :=
  ⟨h.1, h.2.1, fun q hq => by
    have := h.2.2.1 q hq
    exact ⟨this.1, this.2.1, this.2.2.1, this.2.2.2.1, this.2.2.2.2.1, this.2.2.2.2.2.1, this.2.2.2.2.2.2.1, hi q hq⟩, h.2.2.2⟩
theorem tot_up {k x : Nat} (h : k < 2 ∨ k = 4 ∨ k = 5 ∨ k = 6 ∨ k = 10 ∨ 12 ≤ k) : tot (up v k x) = tot v := by
  unfold tot
  rw [up_n (by omega), up_n (by omega), up_n (by omega), up_n (by omega)]
theorem J_tick (h : J b i v) : J (b + 1) i (fTick v) := by
  have b4 := h.2.2 4
  refine ⟨InvA_up h.1 (by omega), ?_, Bd_up (Bd_mono h.2.2 (by omega)) (by omega)⟩
  unfold fTick
  rw [tot_up (by omega), up_n (by omega), up_n (by omega)]
  exact h.2.1
/-- what the message of a crow is -/
theorem carried (h : J b i v) (hb2 : b < 2 ^ 31) (hc : c < v 1) (e0 : v (138 + 2 * c) ≠ 0) : 1 ≤ v (138 + 2 * c + 1) ∧ fPl v (nI (v (138 + 2 * c) - 1)) < v 2 ∧ v (146 + 7 * fPl v (nI (v (138 + 2 * c) - 1))) + 1 = v (138 + 2 * c) ∧ v (146 + 7 * fPl v (nI (v (138 + 2 * c) - 1)) + 4) = 102 ∧ v (146 + 7 * fPl v (nI (v (138 + 2 * c) - 1)) + 3) ≤ 4 := by
  obtain ⟨⟨l, a1, a2, a3, -⟩, -, bd⟩ := h
  obtain ⟨r1, p, hp, e1, e2⟩ := a3.1 c hc e0
  have e3 : v (138 + 2 * c) - 1 = v (146 + 7 * p) := by omega
  rw [e3, fPl_id a1 bd hb2 hp]
  exact ⟨r1, hp, e1, e2, (a2 p hp).2.1 (by omega)⟩
theorem fArrP_lo (h : InvA v 0 (d + 1) 0) (hp : p < v 2) {j : Nat} (hj : j < 2 ∨ j = 4 ∨ j = 5) : fArrP v p j = v j := by
  obtain ⟨l, -⟩ := h
  have l0 := l.1
  have hn := l.2.2 p hp
  have l1 := Lim_arr1 l hp
  have w2 : fArr1 v p 2 = v 2 := fArr1_o (by omega) (by omega)
  have w0 : fArr1 v p 0 = v 0 := fArr1_o (by omega) (by omega)
  unfold fArrP
  split
  · rw [fC_lo (by omega) (by omega), up_n (by omega), fArr1_o (by omega) (by omega)]
  · split
    · rename_i h1 h2
      rw [fD_lo l1 (by omega) (by omega) h2.2 (by omega), if_neg (by omega), if_neg (by omega), fArr1_o (by omega) (by omega)]
    · split
      · rw [fC_lo (by omega) (by omega), up_n (by omega), fArr1_o (by omega) (by omega)]
      · unfold fNap
        rw [up_n (by omega), up_n (by omega), up_n (by omega), fArr1_o (by omega) (by omega)]
theorem J_land (h : J b 0 v) (hb : 110 ≤ b) (hb2 : b < 2 ^ 31) (hc : c < v 1) : J (b + 2) 0 (fLand c v) ∧ fLand c v 1 = v 1 := by
  have l0 := h.1.1.1
  unfold fLand
  by_cases e0 : v (138 + 2 * c) = 0
  · rw [if_pos e0]
    exact ⟨J_mono h (by omega), rfl⟩
  · rw [if_neg e0]
    obtain ⟨q1, q2, q3, q4, q5⟩ := carried h hb2 hc e0
    have hJ := h
    obtain ⟨hA, hT, hB⟩ := h
    have br := hB (138 + 2 * c + 1)
    by_cases r : 1 < v (138 + 2 * c + 1)
    · rw [if_pos r]
      refine ⟨⟨InvA_crow (c := c) hA hc (fun j z y => up_n y) (fun _ => ?_) (fun f hf hfc _ => ?_) (by rw [up_n (by omega)]), ?_, Bd_up (Bd_mono hB (by omega)) (by omega)⟩, up_n (by omega)⟩
      · rw [up_s, up_n (by omega)]
        exact ⟨by omega, _, q2, q3, q4⟩
      · rw [up_n (by omega)]
        rcases Nat.lt_trichotomy f c with y | y | y
        · intro z
          exact hA.2.2.2.1.2 f c y hc (by rw [← z]; exact e0) z.symm
        · exact absurd y hfc
        · exact hA.2.2.2.1.2 c f y hf e0
      · rw [tot_up (by omega), up_n (by omega), up_n (by omega)]
        exact hT
    · rw [if_neg r]
      unfold fArrives
      have vp : fPl (up (up v (138 + 2 * c + 1) (v (138 + 2 * c + 1) - 1)) (138 + 2 * c) 0) (nI (v (138 + 2 * c) - 1)) = fPl v (nI (v (138 + 2 * c) - 1)) := fPl_c (by rw [up_n (by omega), up_n (by omega)]) (fun q _ => by rw [up_n (by omega), up_n (by omega)])
      rw [vp]
      generalize fPl v (nI (v (138 + 2 * c) - 1)) = p at *
      have hu : ∀ j, j ≠ 138 + 2 * c → j ≠ 138 + 2 * c + 1 → up (up v (138 + 2 * c + 1) (v (138 + 2 * c + 1) - 1)) (138 + 2 * c) 0 j = v j := fun j y z => by rw [up_n y, up_n z]
      have hz : up (up v (138 + 2 * c + 1) (v (138 + 2 * c + 1) - 1)) (138 + 2 * c) 0 (138 + 2 * c) = 0 := up_s _ _ _
      have bu : Bd b (up (up v (138 + 2 * c + 1) (v (138 + 2 * c + 1) - 1)) (138 + 2 * c) 0) := Bd_up (Bd_up hB (by omega)) (by omega)
      generalize up (up v (138 + 2 * c + 1) (v (138 + 2 * c + 1) - 1)) (138 + 2 * c) 0 = u at *
      have hU : InvA u 0 (0 + 1) 0 := InvA_crow (c := c) hA hc hu (fun z => absurd hz z) (fun f _ _ z => absurd hz z) (by rw [hz, if_neg e0, if_pos rfl])
      have u2 := hu 2 (by omega) (by omega)
      have u1 := hu 1 (by omega) (by omega)
      have u0 := hu 0 (by omega) (by omega)
      have u3 := hu 3 (by omega) (by omega)
      have hn := hA.1.2.2 p q2
      have A := Inv_arr hU (by unfold tot at hT ⊢; rw [u2, u3, hu 7 (by omega) (by omega), hu 8 (by omega) (by omega), hu 9 (by omega) (by omega), hu 11 (by omega) (by omega)]; exact hT) (by rw [u2]; exact q2) (by rw [hu _ (by omega) (by omega)]; exact q4) (fun f hf => by
        rw [u1] at hf
        rw [hu (146 + 7 * p) (by omega) (by omega), q3]
        by_cases y : f = c
        · subst y
          rw [hz]
          exact fun z => e0 z.symm
        · rw [hu _ (by omega) (by omega)]
          rcases Nat.lt_trichotomy f c with x | x | x
          · intro z
            exact hA.2.2.2.1.2 f c x hc (by rw [z]; exact e0) z
          · exact absurd x y
          · exact fun z => hA.2.2.2.1.2 c f x hf e0 z.symm)
      refine ⟨⟨A.1, A.2, Bd_arr bu hb (by rw [hu _ (by omega) (by omega)]; exact q5) (by rw [hu _ (by omega) (by omega)]; omega) ?_⟩, ?_⟩
      · rw [hu (146 + 7 * p + 1) (by omega) (by omega), hu _ (by omega) (by omega)]
        exact (hA.1.2.1 _ hn).2.1
      · rw [fArrP_lo hU (by rw [u2]; exact q2) (by omega), u1]
end STEP

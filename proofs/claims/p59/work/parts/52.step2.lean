section STEP2
variable {G : mgT} {μ : mmT} {a : Nat} {S : cT} {v w : Nat → Nat} {p n i d e t c b : Nat}
theorem J_wake (h : J b i v) (hp : i < v 2) (hb : 119 ≤ b) : J b (i + 1) (fWake i v) ∧ fWake i v 2 = v 2 ∧ fWake i v 1 = v 1 := by
  obtain ⟨hA, hT, hB⟩ := h
  have l0 := hA.1.1
  have m := hA.2.2.1 i hp
  have b5 := hB (146 + 7 * i + 5)
  have th : ∀ q, q ≠ i → q < v 2 → q < i + 1 → v (146 + 7 * q + 6) = 0 := fun q hq hq2 hq3 => (hA.2.2.1 q hq2).2.2.2.2.2.2.2 (by omega)
  have T : ∀ w : Nat → Nat, (∀ j, j < 12 → w j = v j) → w 2 + tot w = w 3 := fun w z => by
    unfold tot at hT ⊢
    rw [z 2 (by omega), z 3 (by omega), z 7 (by omega), z 8 (by omega), z 9 (by omega), z 11 (by omega)]
    exact hT
  unfold fWake
  by_cases c : v (146 + 7 * i + 4) = 110
  · rw [if_pos c]
    by_cases f : v (146 + 7 * i + 6) = 1
    · rw [if_pos f]
      refine ⟨⟨InvA_row (p := i) hA hp (fun j hj => up_n (by omega)) ?_ (by omega) (by omega) ?_ th, T _ (fun j hj => up_n (by omega)), Bd_up hB (by omega)⟩, up_n (by omega), up_n (by omega)⟩
      · rw [up_s, up_n (by omega), up_n (by omega), up_n (by omega)]
        omega
      · rw [up_n (show 146 + 7 * i + 4 ≠ 146 + 7 * i + 6 by omega)]
    · rw [if_neg f]
      by_cases n1 : v (146 + 7 * i + 5) = 1
      · rw [if_pos n1]
        refine ⟨⟨InvA_row (p := i) hA hp (fun j hj => by rw [up_n (by omega), up_n (by omega)]) ?_ (by omega) (by omega) ?_ th, T _ (fun j hj => by rw [up_n (by omega), up_n (by omega)]), Bd_up (Bd_up hB (by omega)) (by omega)⟩, by rw [up_n (by omega), up_n (by omega)], by rw [up_n (by omega), up_n (by omega)]⟩
        · rw [up_s, up_n (show 146 + 7 * i + 3 ≠ 146 + 7 * i + 4 by omega), up_n (show 146 + 7 * i + 3 ≠ 146 + 7 * i + 5 by omega), up_n (show 146 + 7 * i + 6 ≠ 146 + 7 * i + 4 by omega), up_n (show 146 + 7 * i + 6 ≠ 146 + 7 * i + 5 by omega)]
          omega
        · rw [up_s, c]
          rfl
      · rw [if_neg n1]
        refine ⟨⟨InvA_row (p := i) hA hp (fun j hj => up_n (by omega)) ?_ (by omega) (by omega) ?_ th, T _ (fun j hj => up_n (by omega)), Bd_up hB (by omega)⟩, up_n (by omega), up_n (by omega)⟩
        · rw [up_s, up_n (show 146 + 7 * i + 3 ≠ 146 + 7 * i + 5 by omega), up_n (show 146 + 7 * i + 4 ≠ 146 + 7 * i + 5 by omega), up_n (show 146 + 7 * i + 6 ≠ 146 + 7 * i + 5 by omega)]
          omega
        · rw [up_n (show 146 + 7 * i + 4 ≠ 146 + 7 * i + 5 by omega)]
  · rw [if_neg c]
    refine ⟨⟨InvA_i hA (fun q hq hq2 => ?_), hT, hB⟩, rfl, rfl⟩
    by_cases y : q = i
    · subst y
      exact m.2.2.2.2.2.2.1 c
    · exact th q y hq hq2
theorem fW_yes {x : Int32} (h : fWaiting v x < v 2) : v (146 + 7 * fWaiting v x + 4) = 119 := (of_decide_eq_true (ff_yes _ _ h)).1
theorem J_send (h : J b 16 v) (hc : c < v 1) (hb : 119 ≤ b) : J (b + 1) 16 (fSend c v) ∧ fSend c v 1 = v 1 := by
  have hJ := h
  obtain ⟨hA, hT, hB⟩ := h
  have l0 := hA.1.1
  unfold fSend
  by_cases e0 : v (138 + 2 * c) = 0
  · rw [if_pos e0]
    by_cases hw : fWaiting v 0 < v 2
    · rw [if_pos hw]
      have st := fW_yes hw
      generalize fWaiting v 0 = p at *
      have m := hA.2.2.1 p hw
      have hn := hA.1.2.2 p hw
      obtain ⟨-, -, f1, f9, -⟩ := hA.1.2.1 _ hn
      have bi := hB (146 + 7 * p)
      unfold fSendP
      have A : InvA (up v (146 + 7 * p + 4) 102) 16 1 0 := by
        refine InvA_row (p := p) (d2 := 1) (i2 := 16) hA hw (fun j hj => up_n (by omega)) ?_ (by omega) (fun z => by omega) ?_ (fun q _ hq2 hq3 => (hA.2.2.1 q hq2).2.2.2.2.2.2.2 hq3)
        · rw [up_s, up_n (show 146 + 7 * p + 3 ≠ 146 + 7 * p + 4 by omega), up_n (show 146 + 7 * p + 5 ≠ 146 + 7 * p + 4 by omega), up_n (show 146 + 7 * p + 6 ≠ 146 + 7 * p + 4 by omega)]
          omega
        · rw [up_s, st]
          rfl
      have no : ∀ f, f < v 1 → v (138 + 2 * f) ≠ v (146 + 7 * p) + 1 := fun f hf z => by
        obtain ⟨-, q, hq, e1, e2⟩ := hA.2.2.2.1.1 f hf (by omega)
        have := ids_inj hA.2.1 hq hw (by omega)
        subst this
        omega
      generalize hL : v (12 + 21 * v (146 + 7 * p + 1)) + (if 5 < v 5 then 1 else 0) = L
      have hL1 : 1 ≤ L ∧ L ≤ 10 := by
        rw [← hL]
        split <;> omega
      refine ⟨⟨InvA_crow (c := c) (d2 := 0) A (by rw [up_n (by omega)]; exact hc) (fun j y z => by rw [up_n z, up_n y]) (fun _ => ?_) (fun f hf hfc _ => ?_) ?_, ?_, Bd_up (Bd_up (Bd_up (Bd_mono hB (by omega)) (by omega)) (by omega)) (by omega)⟩, by rw [up_n (by omega), up_n (by omega), up_n (by omega)]⟩
      · rw [up_s, up_n (show 138 + 2 * c ≠ 138 + 2 * c + 1 by omega), up_s]
        refine ⟨hL1.1, p, by rw [up_n (by omega)]; exact hw, by rw [up_n (by omega)], up_s _ _ _⟩
      · rw [up_n (by omega)] at hf
        rw [up_n (show 138 + 2 * c ≠ 138 + 2 * c + 1 by omega), up_s, up_n (by omega)]
        exact fun z => no f hf z.symm
      · rw [up_n (show 138 + 2 * c ≠ 138 + 2 * c + 1 by omega), up_s, up_n (by omega), e0, if_pos rfl, if_neg (by omega)]
      · rw [tot_up (by omega), tot_up (by omega), tot_up (by omega), up_n (by omega), up_n (by omega), up_n (by omega), up_n (by omega), up_n (by omega), up_n (by omega)]
        exact hT
    · rw [if_neg hw]
      exact ⟨J_mono hJ (by omega), rfl⟩
  · rw [if_neg e0]
    exact ⟨J_mono hJ (by omega), rfl⟩
end STEP2

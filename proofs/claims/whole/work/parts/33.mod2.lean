theorem VT_c {μ : mmT} {m : Nat} {v w : Nat → Nat} (h : ∀ j, v j = w j) : VT μ m v = VT μ m w := by rw [funext h]
section MOD2
variable {G : mgT} {μ : mmT} {m : Nat} {v : Nat → Nat} {b : Nat}
theorem vin_s {k : Nat} (hm : MS μ m) (hk : k < 258) : vp_in (nI k) (mN (VT μ m v) (m + 1)) := by
  show vp_in _ (mN μ (m + 1))
  rw [hm.2.2.2]
  exact vp_in_nI hk (by omega)
theorem s_X11_ceases {Q : mmT → Prop} {p : Nat} (hm : MS μ m) (hp : p < v 2) (hc : v 2 ≤ 16) (h : Q (VT μ m (fCeases v p))) : w_X11_ceases G (VT μ m v) m (nI p) Q := by
  unfold w_X11_ceases
  refine ⟨hm.1, rd_s hm (by omega) ?_⟩
  rw [cl (by omega), VT_A, pk_sub (show 1 ≤ v 2 by omega), pk_mul]
  refine (lpE (W := fun n i => 7 * p ≤ i → w_X11_ceases_l14 G m Q n (nI (v 2 - 1)) (nI i) (VT μ m (fun j => if 146 + 7 * p ≤ j ∧ j < 146 + i then v (j + 7) else v j))) (N := 7 * (v 2 - 1)) ?_ (show 7 * p ≤ _ by omega)).imp fun n hn => ?_
  · intro n i hi ih hpi
    show w_X11_ceases_b14 G m Q _ (nI (v 2 - 1)) (nI i) _
    unfold w_X11_ceases_b14
    rw [pk_mul]
    refine ⟨fun c => ?_, fun c => ?_⟩
    · have e : i = 7 * (v 2 - 1) := by
        have := (nI_leI (by omega) (by omega)).mp c
        omega
      subst e
      refine (lpE (W := fun n i => w_X11_ceases_l53 G m Q n (nI (v 2 - 1)) (nI i) (VT μ m (fun j => if 146 + 7 * (v 2 - 1) ≤ j ∧ j < 146 + 7 * (v 2 - 1) + i then 0 else if 146 + 7 * p ≤ j ∧ j < 146 + 7 * (v 2 - 1) then v (j + 7) else v j))) (N := 7) ?_ (Nat.zero_le _)).imp fun n hn => ?_
      · intro n i hi ih
        show w_X11_ceases_b53 G m Q _ (nI (v 2 - 1)) (nI i) _
        unfold w_X11_ceases_b53
        refine ⟨fun c => ?_, fun c => ?_⟩
        · have e : i = 7 := by
            have := (nI_leI (by omega) (by omega)).mp c
            omega
          subst e
          refine ⟨hm.1, rd_s hm (by omega) ?_⟩
          rw [cl (by omega), VT_sA, VT_c (w := fCeases v p) (fun j => ?_)]
          · exact h
          · rw [up_a]
            unfold fCeases
            by_cases h1 : j = 2
            · rw [if_pos h1, if_pos h1]
            · rw [if_neg h1, if_neg h1]
              by_cases h2 : 146 + 7 * (v 2 - 1) ≤ j ∧ j < 146 + 7 * (v 2 - 1) + 7
              · rw [if_pos h2, if_neg (by omega), if_pos h2]
              · rw [if_neg h2, if_neg h2]
        · have hl : i < 7 := by
            by_cases q : i < 7
            · exact q
            · exact absurd (nI_le (by omega) (by omega)) c
          have e1 : nI 146 + nI 7 * nI (v 2 - 1) + nI i = nI (146 + 7 * (v 2 - 1) + i) := by rw [pk_mul, nI_add, nI_add]
          refine ⟨hm.1, m + 1, hm.2.1, hm.2.2.1, ?_, ?_⟩
          · rw [e1]
            exact vin_s hm (by omega)
          · rw [e1, cl (by omega), VT_sA, nI_add]
            have := ih hl
            rw [VT_c (fun j => ?_)] at this
            · exact this
            · rw [up_a]
              by_cases h1 : j = 146 + 7 * (v 2 - 1) + i
              · rw [if_pos h1, if_pos (by omega)]
              · rw [if_neg h1]
                by_cases h2 : 146 + 7 * (v 2 - 1) ≤ j ∧ j < 146 + 7 * (v 2 - 1) + i
                · rw [if_pos h2, if_pos (by omega)]
                · rw [if_neg h2, if_neg (by omega)]
      · rw [VT_c (fun j => ?_)]
        · exact hn
        · rw [if_neg (show ¬ (146 + 7 * (v 2 - 1) ≤ j ∧ j < 146 + 7 * (v 2 - 1) + 0) by omega)]
    · have hl : i < 7 * (v 2 - 1) := by
        by_cases q : i < 7 * (v 2 - 1)
        · exact q
        · exact absurd (nI_le (by omega) (by omega)) c
      have e1 : nI 146 + nI i + nI 7 = nI (146 + i + 7) := by rw [nI_add, nI_add]
      have e2 : nI 146 + nI i = nI (146 + i) := nI_add _ _
      refine ⟨hm.1, m + 1, hm.2.1, hm.2.2.1, ?_, ?_, ?_⟩
      · rw [e1]
        exact vin_s hm (by omega)
      · rw [nI_add]
        exact vin_s hm (by omega)
      · rw [e1, cl (by omega), VT_A, e2, cl (by omega), VT_sA, nI_add]
        have := ih hl (by omega)
        rw [VT_c (fun j => ?_)] at this
        · exact this
        · rw [up_a]
          by_cases h1 : j = 146 + i
          · rw [if_pos h1, if_pos (by omega), if_neg (by omega), h1]
          · rw [if_neg h1]
            by_cases h2 : 146 + 7 * p ≤ j ∧ j < 146 + i
            · rw [if_pos h2, if_pos (by omega)]
            · rw [if_neg h2, if_neg (by omega)]
  · have := hn (Nat.le_refl _)
    rw [VT_c (fun j => ?_)] at this
    · exact this
    · rw [if_neg (by omega)]
theorem s_X11_knows {Q : Int32 → Prop} {n key : Nat} (hm : MS μ m) (hn : n < 6) (hk : v (12 + 21 * n + 11) ≤ 8) (hb : Bd b v) (hb2 : b < 2 ^ 30) (hkey : key ≤ b) (h : Q (if fKnows v n key then 1 else 0)) : w_X11_knows G (VT μ m v) m (nI n) (nI key) Q := by
  unfold w_X11_knows
  refine (lpE (W := fun d i => (∀ j, j < i → ¬ v (12 + 21 * n + 12 + j) = key) → w_X11_knows_l2 G (VT μ m v) m Q d (nI n) (nI key) (nI i)) (N := v (12 + 21 * n + 11)) ?_ (Nat.zero_le _)).imp fun d hd => hd (fun j hj => absurd hj (Nat.not_lt_zero _))
  intro d i hi ih h0
  show w_X11_knows_b2 G (VT μ m v) m Q _ (nI n) (nI key) (nI i)
  unfold w_X11_knows_b2
  refine ⟨hm.1, s_X11_nest hm (by omega) ⟨fun c => ?_, fun c => ?_⟩⟩
  · have e : i = v (12 + 21 * n + 11) := by
      have := (nI_leI (by omega) (by omega)).mp c
      omega
    have e2 : fKnows v n key = false := by
      unfold fKnows
      rw [ff_none (fun j hj => decide_eq_false (h0 j (by omega)))]
      exact decide_eq_false (Nat.lt_irrefl _)
    rw [e2] at h
    exact h
  · have hl : i < v (12 + 21 * n + 11) := by
      by_cases q : i < v (12 + 21 * n + 11)
      · exact q
      · exact absurd (nI_le (by omega) (by omega)) c
    rw [nI_add]
    have hb3 := hb (12 + 21 * n + (12 + i))
    refine s_X11_nest hm (by omega) ⟨fun c2 => ?_, fun c2 => ?_⟩
    · have := ih hl (fun j hj => by
        by_cases q : j = i
        · rw [q]
          intro z
          refine c2 ?_
          rw [show 12 + 21 * n + (12 + i) = 12 + 21 * n + 12 + i by omega, z]
        · exact h0 j (by omega))
      rw [nI_add]
      exact this
    · have e2 : fKnows v n key = true := by
        unfold fKnows
        have c3 := (nI_eq (by omega) (by omega)).mp c2
        rw [show 12 + 21 * n + (12 + i) = 12 + 21 * n + 12 + i by omega] at c3
        rw [ff_at hl (decide_eq_true c3) (fun j hj => decide_eq_false (h0 j hj))]
        exact decide_eq_true hl
      rw [e2] at h
      exact h
theorem s_X11_isLost {Q : Int32 → Prop} {p tries : Nat} (hm : MS μ m) (hp : p < 16) (hn : v (146 + 7 * p + 1) < 6) (hb : Bd b v) (hb2 : b < 2 ^ 28) (ht : tries ≤ b) (h : Q (if fLost v p tries then 1 else 0)) : w_X11_isLost G (VT μ m v) m (nI p) (nI tries) Q := by
  unfold w_X11_isLost w_X11_isLost_b36
  have h1 := hb (146 + 7 * p + 0)
  have h2 := hb 5
  have h3 := hb (12 + 21 * v (146 + 7 * p + 1) + 1)
  refine ⟨hm.1, s_X11_of hm (by omega) (rd_s hm (by omega) (s_X11_of hm (by omega) (s_X11_nest hm (by omega) ?_)))⟩
  rw [cl (by omega), VT_A, nI_add, nI_add, pk_rem (by omega) (by omega) (by omega)]
  have e : fLost v p tries = decide ((v (146 + 7 * p + 0) + tries + v 5) % 5 < v (12 + 21 * v (146 + 7 * p + 1) + 1)) := rfl
  refine ⟨fun c => ⟨Or.inl rfl, ?_⟩, fun c => ⟨Or.inr rfl, ?_⟩⟩
  · have c2 := (nI_leI (by omega) (by omega)).mp c
    rw [e, decide_eq_false (by omega)] at h
    exact h
  · have c2 : ¬ v (12 + 21 * v (146 + 7 * p + 1) + 1) ≤ (v (146 + 7 * p + 0) + tries + v 5) % 5 := fun q => c (nI_le q (by omega))
    rw [e, decide_eq_true (by omega)] at h
    exact h
theorem s_X11_learns {Q : mmT → Prop} {n key : Nat} (hm : MS μ m) (hn : n < 6) (hk : v (12 + 21 * n + 11) ≤ 8) (h : Q (VT μ m (fLearns v n key))) : w_X11_learns G (VT μ m v) m (nI n) (nI key) Q := by
  unfold w_X11_learns
  refine ⟨hm.1, s_X11_nest hm (by omega) ⟨fun c => ?_, fun c => ?_⟩⟩
  · have hk8 : ¬ v (12 + 21 * n + 11) = 8 := fun e => c (by rw [e])
    unfold w_X11_learns_b55
    rw [nI_add, nI_add]
    refine ⟨hm.1, s_X11_setsNest hm (by omega) ⟨hm.1, s_X11_setsNest hm (by omega) ?_⟩⟩
    rw [show 12 + 21 * n + (12 + v (12 + 21 * n + 11)) = 12 + 21 * n + 12 + v (12 + 21 * n + 11) by omega]
    unfold fLearns at h
    rw [if_neg hk8] at h
    exact h
  · have hk8 : v (12 + 21 * n + 11) = 8 := (nI_eq (by omega) (by omega)).mp c
    refine (lpE (W := fun d i => w_X11_learns_l17 G m Q d (nI n) (nI key) (nI i) (VT μ m (fun j => if 12 + 21 * n + 12 ≤ j ∧ j < 12 + 21 * n + 12 + i then v (j + 1) else v j))) (N := 7) ?_ (Nat.zero_le _)).imp fun d hd => ?_
    · intro d i hi ih
      show w_X11_learns_b17 G m Q _ (nI n) (nI key) (nI i) _
      unfold w_X11_learns_b17 w_X11_learns_b55
      refine ⟨fun c => ?_, fun c => ?_⟩
      · have e : i = 7 := by
          have := (nI_leI (by omega) (by omega)).mp c
          omega
        subst e
        rw [nI_add, nI_add]
        refine ⟨hm.1, s_X11_setsNest hm (by omega) ⟨hm.1, s_X11_setsNest hm (by omega) ?_⟩⟩
        rw [VT_c (w := fLearns v n key) (fun j => ?_)]
        · exact h
        · rw [up_a, up_a]
          unfold fLearns
          rw [if_pos hk8]
          by_cases h1 : j = 12 + 21 * n + 11
          · rw [if_pos h1, if_neg (by omega), if_neg (by omega), h1, hk8]
          · rw [if_neg h1]
            by_cases h2 : j = 12 + 21 * n + (12 + 7)
            · rw [if_pos h2, if_neg (by omega), if_pos (by omega)]
            · rw [if_neg h2]
              by_cases h3 : 12 + 21 * n + 12 ≤ j ∧ j < 12 + 21 * n + 19
              · rw [if_pos (by omega), if_pos h3]
              · rw [if_neg (by omega), if_neg h3, if_neg (by omega)]
      · have hl : i < 7 := by
          by_cases q : i < 7
          · exact q
          · exact absurd (nI_le (by omega) (by omega)) c
        rw [nI_add, nI_add]
        refine ⟨hm.1, s_X11_nest hm (by omega) (s_X11_setsNest hm (by omega) ?_)⟩
        rw [nI_add]
        have := ih hl
        rw [VT_c (fun j => ?_)] at this
        · exact this
        · rw [up_a, if_neg (show ¬ (12 + 21 * n + 12 ≤ 12 + 21 * n + (12 + i + 1) ∧ 12 + 21 * n + (12 + i + 1) < 12 + 21 * n + 12 + i) by omega)]
          by_cases h1 : j = 12 + 21 * n + (12 + i)
          · rw [if_pos h1, if_pos (by omega), h1]
            rfl
          · rw [if_neg h1]
            by_cases h2 : 12 + 21 * n + 12 ≤ j ∧ j < 12 + 21 * n + 12 + i
            · rw [if_pos h2, if_pos (by omega)]
            · rw [if_neg h2, if_neg (by omega)]
    · rw [VT_c (fun j => ?_)]
      · exact hd
      · rw [if_neg (by omega)]
end MOD2

/-! THE LAW: ALL fun _ => l_0 hk hO, fun _ => l_1 hk hO, fun _ => l_2 hk hO, fun _ => l_3 hk hO, fun _ => l_4 hk hO, fun _ => l_5 hk hO, fun _ => l_6 hk hO, fun _ => l_7 hk hO, fun _ => l_8 hk hO, fun _ => l_9 hk hO, fun _ => l_10 hk hO, fun _ => l_11 hk hO, fun _ => l_12 hk hO, fun _ => l_13 hk hO, fun _ => l_14 hk hO, fun _ => l_15 hk hO, fun _ => l_16 hk hO, fun _ => l_17 hk hO, fun _ => l_18 hk hO, fun _ => l_19 hk hO, fun _ => l_20 hk hO, fun _ => l_21 hk hO, fun _ => l_22 hk hO, fun _ => l_23 hk hO, fun _ => l_24 hk hO, fun _ => l_25 hk hO, fun _ => l_26 hk hO, fun _ => l_27 hk hO, fun _ => l_28 hk hO, fun _ => l_29 hk hO, fun _ => l_30 hk hO, fun _ => l_31 hk hO b31, fun _ => l_32 hk hO, fun _ => l_33 hk hO, fun _ => l_34 hk hO, fun _ => l_35 hk hO, fun _ => l_36 hk hO, fun _ => l_37 hk hO, fun _ => l_38 hk hO, fun _ => l_39 hk hO, fun _ => l_40 hk hO, fun _ => l_41 hk hO, fun _ => l_42 hk hO, fun _ => l_43 hk hO, fun _ => l_44 hk hO, fun _ => l_45 hk hO, fun _ => l_46 hk hO, fun _ => l_47 hk hO, fun _ => l_48 hk hO, fun _ => l_49 hk hO, fun _ => l_50 hk hO b50, fun _ => l_51 hk hO, fun _ => l_52 hk hO, fun _ => l_53 hk hO, fun _ => l_54 hk hO, fun _ => l_55 hk hO -/
section LOOP
variable {G : mgT} {μ ν : mmT} {z i t o L B B2 c c2 d : Nat} {xs : Nat → Int32}
theorem Ok_mono (h : Ok μ z B c) (h1 : B ≤ B2) (h2 : c ≤ c2) : Ok μ z B2 c2 := by
  obtain ⟨hT, v, ct, V, R, a, b, hV, hJ⟩ := h
  exact ⟨hT, v, ct, V, R, a, b, JV_mono hV h1 h2, JR_mono hJ h1 h2⟩
def Bt (t : Nat) : Nat := 119 + 20000 * t
theorem Bt_s (t : Nat) : Bt (t + 1) = Bt t + 20000 := by
  unfold Bt
  rw [Nat.mul_succ, ← Nat.add_assoc]
theorem Bt_b (h : t ≤ 512) : 119 ≤ Bt t ∧ Bt t + 20000 < 2 ^ 26 := by
  have h1 : 20000 * t ≤ 20000 * 512 := Nat.mul_le_mul_left 20000 h
  have h2 : Bt t ≤ 119 + 20000 * 512 := Nat.add_le_add_left h1 119
  exact ⟨Nat.le_add_right _ _, Nat.lt_of_le_of_lt (Nat.add_le_add_right h2 20000) (by decide)⟩
theorem out_lt (hL : L ≤ 1536) (hi : i ≤ 1536) : nI L - nI 3 < nI i ↔ L < i + 3 := by
  rw [Int32.lt_iff_toInt_lt, pk_sub_toInt (by omega) (by decide), nI_toInt (by omega)]
  omega
theorem lp (hL : L ≤ 1536) : ∀ (d t : Nat) (μ : mmT), t + d = 512 → Ok μ z (Bt t) (12 * t) → w_L_law_l28 G o L xs (d + 1) (some z) (some (z + 584)) (some (z + 593)) (some (z + 594)) (nI (3 * t)) t μ := by
  intro d
  induction d with
  | zero =>
    intro t μ ht hO
    exact ⟨by omega, fun _ => trivial, fun e => absurd ((out_lt hL (by omega)).mpr (by omega)) e⟩
  | succ d ih =>
    intro t μ ht hO
    by_cases e : L < 3 * t + 3
    · exact ⟨by omega, fun _ => trivial, fun q => absurd ((out_lt hL (by omega)).mpr e) q⟩
    · obtain ⟨b1, b2⟩ := Bt_b (t := t) (by omega)
      have b50 : Bt t + 20000 < 2 ^ 26 := b2
      have b31 : Bt t + 2600 < 2 ^ 26 := Nat.lt_of_le_of_lt (Nat.add_le_add_left (by decide) _) b2
      have b13 : Bt t + 1300 < 2 ^ 26 := Nat.lt_of_le_of_lt (Nat.add_le_add_left (by decide) _) b2
      have kk : Kk (fun ρ => w_L_law_l28 G o L xs (d + 1) (some z) (some (z + 584)) (some (z + 593)) (some (z + 594)) (nI (3 * t) + nI 3) (t + 1) ρ) z (Bt t + 20000) (12 * t + 12) := fun ρ h => by
        rw [nI_add, show 3 * t + 3 = 3 * (t + 1) from rfl]
        refine ih (t + 1) ρ (by omega) ?_
        rw [Bt_s, show 12 * (t + 1) = 12 * t + 12 from rfl]
        exact h
      have hk : Tn L (w_L_law_l28 G o L xs (d + 1)) z (3 * t) t (Bt t) (12 * t) := by
        refine ⟨by omega, ?_, ?_, ⟨b1, b13⟩, by omega, kk⟩
        · rw [nI_add]; exact vp_in_nI (by omega) (by omega)
        · rw [nI_add]; exact vp_in_nI (by omega) (by omega)
      exact ⟨by omega, fun _ => trivial, fun _ => ⟨vp_in_nI (by omega) (by omega), fun _ => ⟨by omega, kk μ (Ok_mono hO (Nat.le_add_right _ _) (Nat.le_add_right _ _))⟩, fun _ => l_0 hk hO, fun _ => l_1 hk hO, fun _ => l_2 hk hO, fun _ => l_3 hk hO, fun _ => l_4 hk hO, fun _ => l_5 hk hO, fun _ => l_6 hk hO, fun _ => l_7 hk hO, fun _ => l_8 hk hO, fun _ => l_9 hk hO, fun _ => l_10 hk hO, fun _ => l_11 hk hO, fun _ => l_12 hk hO, fun _ => l_13 hk hO, fun _ => l_14 hk hO, fun _ => l_15 hk hO, fun _ => l_16 hk hO, fun _ => l_17 hk hO, fun _ => l_18 hk hO, fun _ => l_19 hk hO, fun _ => l_20 hk hO, fun _ => l_21 hk hO, fun _ => l_22 hk hO, fun _ => l_23 hk hO, fun _ => l_24 hk hO, fun _ => l_25 hk hO, fun _ => l_26 hk hO, fun _ => l_27 hk hO, fun _ => l_28 hk hO, fun _ => l_29 hk hO, fun _ => l_30 hk hO, fun _ => l_31 hk hO b31, fun _ => l_32 hk hO, fun _ => l_33 hk hO, fun _ => l_34 hk hO, fun _ => l_35 hk hO, fun _ => l_36 hk hO, fun _ => l_37 hk hO, fun _ => l_38 hk hO, fun _ => l_39 hk hO, fun _ => l_40 hk hO, fun _ => l_41 hk hO, fun _ => l_42 hk hO, fun _ => l_43 hk hO, fun _ => l_44 hk hO, fun _ => l_45 hk hO, fun _ => l_46 hk hO, fun _ => l_47 hk hO, fun _ => l_48 hk hO, fun _ => l_49 hk hO, fun _ => l_50 hk hO b50, fun _ => l_51 hk hO, fun _ => l_52 hk hO, fun _ => l_53 hk hO, fun _ => l_54 hk hO, fun _ => l_55 hk hO⟩⟩
end LOOP

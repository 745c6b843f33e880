/-! THE LAW TAKES BACK ALL -/
section KEPT
variable {G : mgT} {μ ν ρ : mmT} {z c m i F n k p ct cc d q y made base : Nat} {v w : Nat → Nat} {B : Nat} {x x3 : Int32} {V : Nat → Nat → Nat} {R : rT} {Q : Int32 → mmT → Prop}
/-- the sums that are kept: of the ct states before, of this one -/
def Sums (μ : mmT) (z made base ct : Nat) (V : Nat → Nat → Nat) (v : Nat → Nat) : Prop := mK μ (z + 584) = 35 ∧ mN μ (z + 584) = 80 ∧ (∀ k, k < ct → mL μ (z + 584) (base + k) = sumV (V k)) ∧ mL μ (z + 584) made = sumV v
theorem Sums.kp (h : Sums μ z made base ct V v) (k : Kp z μ ν) : Sums ν z made base ct V v := by
  obtain ⟨k1, k2, k3⟩ := k (z + 584) (by omega)
  exact ⟨k1.trans h.1, k2.trans h.2.1, fun j hj => (k3 _).trans (h.2.2.1 j hj), (k3 _).trans h.2.2.2⟩
theorem Iw.ak (h : Iw μ z B c v ct V R) (hc : c ≤ 2000) (hb : 119 ≤ B) (hb2 : B + 20000 < 2 ^ 26) : Ak μ z B v := h.iv.ak hc hb hb2
theorem k18 (hc : c ≤ 2000) (hb : 119 ≤ B) (hb2 : B + 20000 < 2 ^ 26) (hr : rH R = 1) (h80 : made < 80) (h8 : ct ≤ 8) (hct : base + ct = made) (hq : ∀ ρ, Q (nI 1) ρ) : ∀ L t μ v x5, t + L = ct → (0 < L → x5 = nI (base + L - 1)) → Iw μ z B c v L V R → Sums μ z made base ct V (rV R) → w_L_isKept_l18 G Q (L + 1) (some z) (some (z + 584)) (nI made) (nI (rV R 2)) (nI L) x5 t μ := by
  intro L
  induction L with
  | zero =>
    intro t μ v x5 ht hx h hS
    show w_L_isKept_b18 G Q _ _ _ _ _ _ _ _ _
    unfold w_L_isKept_b18
    refine ⟨by omega, fun _ => l_undo h (fun z => absurd z (by decide)) (fun _ => ⟨fun e => absurd rfl e, fun _ => l_restore h hr (fun ν kp iw => ?_)⟩), fun e => absurd (by decide) e⟩
    obtain ⟨s1, s2, s3, s4⟩ := hS.kp kp
    refine ⟨fun e => absurd rfl e, fun _ => t_sumV (iw.ak hc hb hb2) ⟨_, rfl, s1, ?_, ?_⟩⟩
    · rw [s2]
      exact vp_in_nI h80 (by decide)
    · rw [cl (by omega), s4]
      refine ⟨fun e => absurd lg_self e, fun _ => l_undo iw (fun z => absurd z (by decide)) (fun _ => ⟨fun e => absurd rfl e, fun _ => ⟨Or.inr rfl, hq ν⟩⟩)⟩
  | succ L ih =>
    intro t μ v x5 ht hx h hS
    show w_L_isKept_b18 G Q _ _ _ _ _ _ _ _ _
    unfold w_L_isKept_b18
    refine ⟨by omega, fun e => absurd e (nI_nle (by omega) (by omega)), fun _ => l_undo h (fun _ ν kp iw => ?_) (fun e => absurd e (Nat.succ_ne_zero L))⟩
    have iw' : Iw ν z B c (V L) L V R := iw
    have hS2 := hS.kp kp
    obtain ⟨s1, s2, s3, s4⟩ := hS2
    rw [pk_m1, hx (by omega)]
    refine ⟨fun e => absurd rfl e, fun _ => t_sumV (iw'.ak hc hb hb2) ⟨_, rfl, s1, ?_, ?_⟩⟩
    · rw [s2]
      exact vp_in_nI (by omega) (by decide)
    · rw [cl (by omega), show base + (L + 1) - 1 = base + L by omega, s3 L (by omega)]
      refine ⟨fun _ => ih (t + 1) ν (V L) _ (by omega) (fun h0 => ?_) iw' ⟨s1, s2, s3, s4⟩, fun e => absurd lg_self e⟩
      rw [show base + L = base + L - 1 + 1 by omega, pk_m1]
      rfl
theorem l_isKept (hc : c ≤ 2000) (hb : 119 ≤ B) (hb2 : B + 20000 < 2 ^ 26) (h80 : made < 80) (hct : ct = if made < 8 then made else 8) (h : Iv μ z B c v ct V) (hS : Sums μ z made (made - ct) ct V v) (hq : ∀ ρ, Q (nI 1) ρ) : w_L_isKept G μ (some z) (some (z + 584)) (nI made) Q := by
  unfold w_L_isKept
  have e8 : (if nI made < nI 8 then nI made else nI 8) = nI ct := by
    rw [hct]
    by_cases m : made < 8
    · rw [if_pos m, if_pos ((nI_ltI (by omega) (by decide)).mpr m)]
    · rw [if_neg m, if_neg (fun z => m ((nI_ltI (by omega) (by decide)).mp z))]
  have c8 : ct ≤ 8 ∧ ct ≤ made := by rw [hct]; split <;> omega
  refine ⟨z, rfl, h.1.kz, l_save h (fun ν R r1 r2 kp iw => ⟨ct + 1, ?_⟩)⟩
  rw [e8, ← r2]
  exact k18 (base := made - ct) (ct := ct) hc hb hb2 r1 h80 c8.1 (by omega) hq ct 0 ν v _ (Nat.zero_add _) (fun h0 => by rw [pk_sub (by omega), show made - ct + ct - 1 = made - 1 by omega]) iw (by rw [r2]; exact hS.kp kp)
end KEPT

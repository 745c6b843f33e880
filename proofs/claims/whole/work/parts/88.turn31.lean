/-! THE LAW: WHAT IS FORESEEN; TAKING BACK, SAVING -/
section LAW31
variable {G : mgT} {μ ν ρ σ : mmT} {z a b c c2 m i F nx ct t o L : Nat} {S S2 : cT} {v w v0 : Nat → Nat} {V : Nat → Nat → Nat} {R : rT} {B B2 : Nat} {x : Int32} {xs : Nat → Int32} {K : Option Nat → Option Nat → Option Nat → Option Nat → Int32 → Nat → mmT → Prop}
theorem t_until {Q : Int32 → mmT → Prop} {X : String → mmT → Prop} (hT : ST μ z) (hI : ICv μ z v ct V) (h : J B 16 v) (hb : 119 ≤ B) (hb2 : B + 2600 < 2 ^ 26)
    (h1 : fPl v x < v 2 → v (146 + 7 * fPl v x + 4) ≠ 100 → fUD x 100 1 v ≠ 0 → ∀ ν, Ag z μ ν (fun b => z + 87 ≤ b ∧ b < z + 130) → ICv ν z v ct V → Q (nI (fUD x 100 1 v)) ν)
    (h3 : fPl v x < v 2 → v (146 + 7 * fPl v x + 4) ≠ 100 → fUD x 100 1 v = 0 → ∀ ν, Ag z μ ν (fun b => z + 87 ≤ b ∧ b < z + 130) → ICv ν z v ct V → X "java/lang/IllegalStateException" ν)
    (h2 : fPl v x < v 2 → v (146 + 7 * fPl v x + 4) = 100 → X "java/lang/IllegalStateException" μ) (h0 : ¬ fPl v x < v 2 → X "java/util/NoSuchElementException" μ) : w_X10_minutesUntilDelivered G μ z x Q X := by
  have l := h.1.1
  have hs := hI.1
  obtain ⟨S, e1, r1⟩ := hs
  unfold w_X10_minutesUntilDelivered
  refine ⟨hT.kz, ?_⟩
  have := x_msg (G := G) (x := x) (Q := fun ru2 => ∃ a3, ru2 = some a3 ∧ (mK μ a3 = 5 ∧ ((¬ (mI μ 132 a3) = (nI 100) → (w_X10_foreseenMinutes G μ z x (fun u7 μ8 => ((¬ u7 = (-1) → (Q u7 μ8)) ∧ (u7 = (-1) → (X "java/lang/IllegalStateException" μ8)))))) ∧ ((mI μ 132 a3) = (nI 100) → (X "java/lang/IllegalStateException" μ))))) (X := fun E => X E μ) hT r1 l (fun q => ?_) h0
  · rw [BT_self e1] at this
    exact this
  · have hc := rel_P r1 l q
    have bs := h.2.2 (146 + 7 * fPl v x + 4)
    have es : mI μ 132 (z + 1 + (27 + cP S (fPl v x))) = nI (v (146 + 7 * fPl v x + 4)) := (e1.1 132 (27 + cP S (fPl v x)) (by omega)).trans (r1.2.2.2.2.1 _ q).1.2.2.2.2
    refine ⟨_, rfl, hT.s1.mk (S := S) hc, fun c => ?_, fun c => ?_⟩
    · rw [es] at c
      have c' : v (146 + 7 * fPl v x + 4) ≠ 100 := fun e => c (by rw [e])
      refine t_foreseen hT hI.1 hI.2.2.1 h hb hb2 (fun ν g s => ?_)
      have iv : ICv ν z v ct V := ⟨St_ag hI.1 g (fun b h1 h2 q => by omega), Sf_ag hI.2.1 g (fun b h1 h2 q => by omega), s, hI.2.2.2.imp fun _ q => HC_ag q g (fun b h1 h2 q => by omega)⟩
      by_cases r : fUD x 100 1 v = 0
      · rw [if_pos r]
        exact ⟨fun q => absurd rfl q, fun _ => h3 q c' r ν g iv⟩
      · rw [if_neg r]
        have := fUD_le 100 1 v (x := x) (by decide)
        exact ⟨fun _ => h1 q c' r ν g iv, fun e => absurd e (nI_m1 (by omega))⟩
    · rw [es] at c
      exact h2 q (nI_inj (by omega) (by decide) c)
/-- the end of a turn in which the row came back -/
theorem ok_until (hT : ST ν z) (hI : ICv ν z v ct V) (hR : ICr ν z R) (hM : IMv ν z v ct V) (hMr : IMr ν z R) (hV : JV B c v ct V) (hJ : JR B c R) {g : Nat → Int32} (hw : Bd (B + 1300) w) {k : Int32} (hρ : ρ = VT (AT (sI ν 320 (z + 584) k) (z + 584 + 5) g) (z + 584) (mx v w)) : Ok ρ z (B + 20000) (c + 12) := by
  subst hρ
  have g1 : Ag z ν (VT (AT (sI ν 320 (z + 584) k) (z + 584 + 5) g) (z + 584) (mx v w)) (fun b => (b = z + 584 ∨ b = z + 589) ∨ b = z + 585) := ((Ag_sI.tr Ag_AT).tr Ag_VT).up (fun b h => h)
  have f : ∀ F, F ≠ 320 → mI (VT (AT (sI ν 320 (z + 584) k) (z + 584 + 5) g) (z + 584) (mx v w)) F (z + 584) = mI ν F (z + 584) := fun F hF => VT_I.trans (AT_I.trans (sI_o (by omega)))
  have l := hV.1.1.1.1
  refine ⟨hT.ag g1, mx v w, ct, V, R, ⟨ICv_8 (ICv_ag hI g1 (fun b hb q => by rcases q with (q | q) | q <;> omega)) l mx_lo, ICr_ag hR g1 (fun b hb q => by rcases q with (q | q) | q <;> omega)⟩, ⟨⟨fun i => VT_Az, HM_ag hM.2 g1 (by omega) (f _ (by omega))⟩, IMr_ag hMr g1 (fun F h1 h2 => f F (by omega)) (fun b hb q => by rcases q with (q | q) | q <;> omega)⟩, ?_, JR_mono hJ (by omega) (by omega)⟩
  have hv2 := JV_mono (B2 := B + 20000) (c2 := c + 12) hV (by omega) (by omega)
  exact ⟨JB_8 hv2.1 mx_lo (Bd_mx hv2.1.1.2.2 (Bd_mono hw (by omega))), hv2.2⟩
theorem sIAT {k k2 : Int32} {g : Nat → Int32} : sI (AT (sI μ F a k) b g) F a k2 = AT (sI μ F a k2) b g := by
  have : sI (AT (sI μ F a k) b g) F a k2 = AT (sI (sI μ F a k) F a k2) b g := rfl
  rw [this, sII]
theorem l_31 (hk : Tn L K z i t B c) (hO : Ok μ z B c) (hb3 : B + 2600 < 2 ^ 26) : w_L_law_b1946 G o L xs K (some z) (some (z + 584)) (some (z + 593)) (some (z + 594)) (nI i) t μ := by
  obtain ⟨ht, v1, v2, hb, hc, kk⟩ := hk
  obtain ⟨hT, v, ct, V, R, ⟨hI, hR⟩, ⟨hM, hMr⟩, hV, hJ⟩ := hO
  have hj := hV.1.1
  have l := hj.1.1
  have kk2 : Kk (fun ρ => t ≤ 512 ∧ (t ≤ 512 ∧ K (some z) (some (z + 584)) (some (z + 593)) (some (z + 594)) (nI i + nI 3) (t + 1) ρ)) z (B + 20000) (c + 12) := fun ρ h => ⟨ht, ht, kk ρ h⟩
  unfold w_L_law_b1946 w_L_law_b1999 w_L_law_b2766 w_L_minutesUntilDelivered
  refine ⟨ht, v1, z, rfl, hT.kz, ?_⟩
  refine t_until hT hI hj hb.1 hb3 (fun q s r ν g iv => ?_) (fun q s r ν g iv => ?_) (fun q s => ?_) (fun q => ?_)
  · have hT2 := hT.ag g
    have hR2 := ICr_ag hR g (fun b hb q => by omega)
    have hM2 := IMv_ag hM g (g.I (by omega)) (fun b hb q => by omega)
    have hMr2 := IMr_ag hMr g (fun F _ _ => g.I (by omega)) (fun b hb q => by omega)
    refine ⟨z + 593, rfl, hT2.l.1, lvp hT2, v1, z + 584, rfl, hT2.km, ?_⟩
    have q1 : ST (sL ν (z + 593) (nI 0).toNatClampNeg (nI (fUD (xs (nI i + nI 1).toNatClampNeg) 100 1 v)).toInt64) z := hT2
    have q2 : ICv (sL ν (z + 593) (nI 0).toNatClampNeg (nI (fUD (xs (nI i + nI 1).toNatClampNeg) 100 1 v)).toInt64) z v ct V := iv
    have q3 : ICr (sL ν (z + 593) (nI 0).toNatClampNeg (nI (fUD (xs (nI i + nI 1).toNatClampNeg) 100 1 v)).toInt64) z R := hR2
    have q4 : IMv (sL ν (z + 593) (nI 0).toNatClampNeg (nI (fUD (xs (nI i + nI 1).toNatClampNeg) 100 1 v)).toInt64) z v ct V := hM2
    have q5 : IMr (sL ν (z + 593) (nI 0).toNatClampNeg (nI (fUD (xs (nI i + nI 1).toNatClampNeg) 100 1 v)).toInt64) z R := hMr2
    have eL : mL (sL ν (z + 593) (nI 0).toNatClampNeg (nI (fUD (xs (nI i + nI 1).toNatClampNeg) 100 1 v)).toInt64) (z + 593) 0 = (nI (fUD (xs (nI i + nI 1).toNatClampNeg) 100 1 v)).toInt64 := sL_e0
    generalize sL ν (z + 593) (nI 0).toNatClampNeg (nI (fUD (xs (nI i + nI 1).toNatClampNeg) 100 1 v)).toInt64 = σ at *
    refine wV (W := fun μ => w_X11_minutesUntilDelivered G μ (z + 584) _ _) (m := z + 584) q4.1 (s_until q1.ms q1.th hj hb.1 hb3 (fun _ _ _ g w hw => ?_) (fun _ _ r0 => absurd r0 r) (fun _ s0 => absurd s0 s) (fun q0 => absurd q q0))
    have hO := ok_until (k := nI 0) (g := g) q1 q2 q3 q4 q5 hV hJ hw rfl
    exact cmp_ok (K := (fun ρ => t ≤ 512 ∧ (t ≤ 512 ∧ K (some z) (some (z + 584)) (some (z + 593)) (some (z + 594)) (nI i + nI 3) (t + 1) ρ))) hO.1 (VT_I.trans (AT_I.trans sI_e)) (fun _ => eL) (kk2 _ hO)
  · have hT2 := hT.ag g
    have hR2 := ICr_ag hR g (fun b hb q => by omega)
    have hM2 := IMv_ag hM g (g.I (by omega)) (fun b hb q => by omega)
    have hMr2 := IMr_ag hMr g (fun F _ _ => g.I (by omega)) (fun b hb q => by omega)
    refine Or.inr ⟨rfl, v1, z + 584, rfl, hT2.km, ?_⟩
    refine wV (W := fun μ => w_X11_minutesUntilDelivered G μ (z + 584) _ _) (m := z + 584) hM2.1 (s_until hT2.ms hT2.th hj hb.1 hb3 (fun _ _ r0 => absurd r r0) (fun _ _ _ g w hw => ?_) (fun _ s0 => absurd s0 s) (fun q0 => absurd q q0))
    rw [sIAT]
    have hO := ok_until (k := nI 2) (g := g) hT2 iv hR2 hM2 hMr2 hV hJ hw rfl
    exact cmp_ok (K := (fun ρ => t ≤ 512 ∧ (t ≤ 512 ∧ K (some z) (some (z + 584)) (some (z + 593)) (some (z + 594)) (nI i + nI 3) (t + 1) ρ))) hO.1 (VT_I.trans (AT_I.trans sI_e)) (fun e => absurd e (by decide)) (kk2 _ hO)
  · refine Or.inr ⟨rfl, v1, z + 584, rfl, hT.km, ?_⟩
    refine wV (W := fun μ => w_X11_minutesUntilDelivered G μ (z + 584) _ _) (m := z + 584) hM.1 (s_until hT.ms hT.th hj hb.1 hb3 (fun _ s0 => absurd s s0) (fun _ s0 => absurd s s0) (fun _ _ => ?_) (fun q0 => absurd q q0))
    have hO := ok_q hT hI hR hM hMr hV hJ (k := nI 2)
    exact cmp_ok (K := (fun ρ => t ≤ 512 ∧ (t ≤ 512 ∧ K (some z) (some (z + 584)) (some (z + 593)) (some (z + 594)) (nI i + nI 3) (t + 1) ρ))) hO.1 (VT_I.trans sI_e) (fun e => absurd e (by decide)) (kk2 _ hO)
  · refine Or.inl ⟨rfl, v1, z + 584, rfl, hT.km, ?_⟩
    refine wV (W := fun μ => w_X11_minutesUntilDelivered G μ (z + 584) _ _) (m := z + 584) hM.1 (s_until hT.ms hT.th hj hb.1 hb3 (fun q0 => absurd q0 q) (fun q0 => absurd q0 q) (fun q0 => absurd q0 q) (fun _ => ?_))
    have hO := ok_q hT hI hR hM hMr hV hJ (k := nI 1)
    exact cmp_ok (K := (fun ρ => t ≤ 512 ∧ (t ≤ 512 ∧ K (some z) (some (z + 584)) (some (z + 593)) (some (z + 594)) (nI i + nI 3) (t + 1) ρ))) hO.1 (VT_I.trans sI_e) (fun e => absurd e (by decide)) (kk2 _ hO)
end LAW31

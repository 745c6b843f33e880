/-! THE LAW: ERRORS, TAKING BACK, SAVING, RESTORING -/
section LAW51
variable {G : mgT} {μ ν ρ σ : mmT} {z a b c c2 m i F nx ct t o L : Nat} {S S2 : cT} {v w v0 : Nat → Nat} {V : Nat → Nat → Nat} {R : rT} {B B2 : Nat} {x : Int32} {xs : Nat → Int32} {K : Option Nat → Option Nat → Option Nat → Option Nat → Int32 → Nat → mmT → Prop}
theorem l_51 (hk : Tn L K z i t B c) (hO : Ok μ z B c) : w_L_law_b2577 G o L xs K (some z) (some (z + 584)) (some (z + 593)) (some (z + 594)) (nI i) t μ := by
  obtain ⟨ht, v1, v2, hb, hc, kk⟩ := hk
  obtain ⟨hT, v, ct, V, R, ⟨hI, hR⟩, ⟨hM, hMr⟩, hV, hJ⟩ := hO
  have kk2 : Kk (fun ρ => t ≤ 512 ∧ (t ≤ 512 ∧ K (some z) (some (z + 584)) (some (z + 593)) (some (z + 594)) (nI i + nI 3) (t + 1) ρ)) z (B + 20000) (c + 12) := fun ρ h => ⟨ht, ht, kk ρ h⟩
  have eX := hR.2.2.1.1
  have eM := hMr.2.2.1.1
  unfold w_L_law_b2577 w_L_law_b2618 w_L_law_b2766 w_L_errorPosition w_X10_errorPosition
  refine ⟨ht, z, rfl, hT.kz, hT.kz, ?_⟩
  rw [eX]
  refine ⟨fun q => ⟨z + 593, rfl, hT.l.1, lvp hT, z + 584, rfl, hT.km, ?_⟩, fun q => ⟨rfl, z + 584, rfl, hT.km, ?_⟩⟩
  · have q1 : ST (sL μ (z + 593) (nI 0).toNatClampNeg (rE R).toInt64) z := hT
    have q2 : ICv (sL μ (z + 593) (nI 0).toNatClampNeg (rE R).toInt64) z v ct V := hI
    have q3 : ICr (sL μ (z + 593) (nI 0).toNatClampNeg (rE R).toInt64) z R := hR
    have q4 : IMv (sL μ (z + 593) (nI 0).toNatClampNeg (rE R).toInt64) z v ct V := hM
    have q5 : IMr (sL μ (z + 593) (nI 0).toNatClampNeg (rE R).toInt64) z R := hMr
    have eL : mL (sL μ (z + 593) (nI 0).toNatClampNeg (rE R).toInt64) (z + 593) 0 = (rE R).toInt64 := sL_e0
    generalize sL μ (z + 593) (nI 0).toNatClampNeg (rE R).toInt64 = σ at *
    have e3 : mI (sI σ 320 (z + 584) (nI 0)) 333 (z + 584) = rE R := (sI_o (by omega)).trans q5.2.2.1.1
    have hO := ok_s q1 q2 q3 q4 q5 hV hJ (k := nI 0)
    unfold w_X11_errorPosition w_X11_errorPosition_b25
    rw [e3]
    exact ⟨q1.km, fun _ => cmp_ok (K := (fun ρ => t ≤ 512 ∧ (t ≤ 512 ∧ K (some z) (some (z + 584)) (some (z + 593)) (some (z + 594)) (nI i + nI 3) (t + 1) ρ))) hO.1 sI_e (fun _ => eL) (kk2 _ hO), fun e => absurd e q⟩
  · have e3 : mI (sI μ 320 (z + 584) (nI 0)) 333 (z + 584) = rE R := (sI_o (by omega)).trans eM
    have hO := ok_s hT hI hR hM hMr hV hJ (k := nI 1)
    unfold w_X11_errorPosition w_X11_errorPosition_b25 w_X11_fails
    rw [e3]
    refine ⟨hT.km, fun e => absurd q e, fun _ => ⟨hT.km, ?_⟩⟩
    rw [sII]
    exact cmp_ok (K := (fun ρ => t ≤ 512 ∧ (t ≤ 512 ∧ K (some z) (some (z + 584)) (some (z + 593)) (some (z + 594)) (nI i + nI 3) (t + 1) ρ))) hO.1 sI_e (fun e => absurd e (by decide)) (kk2 _ hO)
theorem l_52 (hk : Tn L K z i t B c) (hO : Ok μ z B c) : w_L_law_b2621 G o L xs K (some z) (some (z + 584)) (some (z + 593)) (some (z + 594)) (nI i) t μ := by
  obtain ⟨ht, v1, v2, hb, hc, kk⟩ := hk
  obtain ⟨hT, v, ct, V, R, ⟨hI, hR⟩, ⟨hM, hMr⟩, hV, hJ⟩ := hO
  have kk2 : Kk (fun ρ => t ≤ 512 ∧ (t ≤ 512 ∧ K (some z) (some (z + 584)) (some (z + 593)) (some (z + 594)) (nI i + nI 3) (t + 1) ρ)) z (B + 20000) (c + 12) := fun ρ h => ⟨ht, ht, kk ρ h⟩
  have eX := hR.2.2.1.2
  have eM := hMr.2.2.1.2
  unfold w_L_law_b2621 w_L_law_b2662 w_L_law_b2766 w_L_failedCommand w_X10_failedCommand
  refine ⟨ht, z, rfl, hT.kz, hT.kz, ?_⟩
  rw [eX]
  refine ⟨fun q => ⟨z + 593, rfl, hT.l.1, lvp hT, z + 584, rfl, hT.km, ?_⟩, fun q => ⟨rfl, z + 584, rfl, hT.km, ?_⟩⟩
  · have q1 : ST (sL μ (z + 593) (nI 0).toNatClampNeg (rG R).toInt64) z := hT
    have q2 : ICv (sL μ (z + 593) (nI 0).toNatClampNeg (rG R).toInt64) z v ct V := hI
    have q3 : ICr (sL μ (z + 593) (nI 0).toNatClampNeg (rG R).toInt64) z R := hR
    have q4 : IMv (sL μ (z + 593) (nI 0).toNatClampNeg (rG R).toInt64) z v ct V := hM
    have q5 : IMr (sL μ (z + 593) (nI 0).toNatClampNeg (rG R).toInt64) z R := hMr
    have eL : mL (sL μ (z + 593) (nI 0).toNatClampNeg (rG R).toInt64) (z + 593) 0 = (rG R).toInt64 := sL_e0
    generalize sL μ (z + 593) (nI 0).toNatClampNeg (rG R).toInt64 = σ at *
    have e3 : mI (sI σ 320 (z + 584) (nI 0)) 334 (z + 584) = rG R := (sI_o (by omega)).trans q5.2.2.1.2
    have hO := ok_s q1 q2 q3 q4 q5 hV hJ (k := nI 0)
    unfold w_X11_failedCommand w_X11_failedCommand_b25
    rw [e3]
    exact ⟨q1.km, fun _ => cmp_ok (K := (fun ρ => t ≤ 512 ∧ (t ≤ 512 ∧ K (some z) (some (z + 584)) (some (z + 593)) (some (z + 594)) (nI i + nI 3) (t + 1) ρ))) hO.1 sI_e (fun _ => eL) (kk2 _ hO), fun e => absurd e q⟩
  · have e3 : mI (sI μ 320 (z + 584) (nI 0)) 334 (z + 584) = rG R := (sI_o (by omega)).trans eM
    have hO := ok_s hT hI hR hM hMr hV hJ (k := nI 1)
    unfold w_X11_failedCommand w_X11_failedCommand_b25 w_X11_fails
    rw [e3]
    refine ⟨hT.km, fun e => absurd q e, fun _ => ⟨hT.km, ?_⟩⟩
    rw [sII]
    exact cmp_ok (K := (fun ρ => t ≤ 512 ∧ (t ≤ 512 ∧ K (some z) (some (z + 584)) (some (z + 593)) (some (z + 594)) (nI i + nI 3) (t + 1) ρ))) hO.1 sI_e (fun e => absurd e (by decide)) (kk2 _ hO)
theorem JV_pop (hV : JV B c v ct V) (hw : JB B c w) {ct' : Nat} (h : ct' ≤ ct) : JV B c w ct' V := ⟨hw, Nat.le_trans h hV.2.1, fun k hk => hV.2.2 k (by omega)⟩
theorem l_53 (hk : Tn L K z i t B c) (hO : Ok μ z B c) : w_L_law_b2665 G o L xs K (some z) (some (z + 584)) (some (z + 593)) (some (z + 594)) (nI i) t μ := by
  obtain ⟨ht, v1, v2, hb, hc, kk⟩ := hk
  obtain ⟨hT, v, ct, V, R, ⟨hI, hR⟩, ⟨hM, hMr⟩, hV, hJ⟩ := hO
  have kk2 : Kk (fun ρ => t ≤ 512 ∧ (t ≤ 512 ∧ K (some z) (some (z + 584)) (some (z + 593)) (some (z + 594)) (nI i + nI 3) (t + 1) ρ)) z (B + 20000) (c + 12) := fun ρ h => ⟨ht, ht, kk ρ h⟩
  unfold w_L_law_b2665 w_L_law_b2706 w_L_law_b2766 w_L_undo
  refine ⟨ht, z, rfl, hT.kz, t_undo hT hI (fun k hk => (hV.2.2 k hk).1.1.1) hV.2.1 (fun c1 ν g iv => ?_) (fun c0 => ⟨rfl, z + 584, rfl, hT.km, ?_⟩)⟩
  · obtain ⟨q1, q3, q5, q4⟩ := ok_chg (x := (nI (ct - 1)).toInt64) (j := (nI 0).toNatClampNeg) hT hR hMr hM g
    have q2 : ICv (sL ν (z + 593) (nI 0).toNatClampNeg (nI (ct - 1)).toInt64) z (V (ct - 1)) (ct - 1) V := iv
    have eL : mL (sL ν (z + 593) (nI 0).toNatClampNeg (nI (ct - 1)).toInt64) (z + 593) 0 = (nI (ct - 1)).toInt64 := sL_e0
    refine ⟨z + 593, rfl, (hT.ag g).l.1, lvp (hT.ag g), z + 584, rfl, q1.km, ?_⟩
    generalize sL ν (z + 593) (nI 0).toNatClampNeg (nI (ct - 1)).toInt64 = σ at *
    refine s_undo q1 q4 hV.2.1 (fun _ => ?_) (fun z => by omega)
    have hj := hV.2.2 (ct - 1) (by omega)
    have f : ∀ F, F ≠ 320 → F ≠ 326 → mI (VT (sI (sI σ 320 (z + 584) (nI 0)) 326 (z + 584) (nI (ct - 1))) (z + 584) (mx (V (ct - 1)) v)) F (z + 584) = mI σ F (z + 584) := fun F h1 h2 => VT_I.trans ((sI_o (by omega)).trans (sI_o (by omega)))
    have f6 : mI (VT (sI (sI σ 320 (z + 584) (nI 0)) 326 (z + 584) (nI (ct - 1))) (z + 584) (mx (V (ct - 1)) v)) 326 (z + 584) = nI (ct - 1) := VT_I.trans sI_e
    have f0 : mI (VT (sI (sI σ 320 (z + 584) (nI 0)) 326 (z + 584) (nI (ct - 1))) (z + 584) (mx (V (ct - 1)) v)) 320 (z + 584) = nI 0 := VT_I.trans ((sI_o (by omega)).trans sI_e)
    have g1 : Ag z σ (VT (sI (sI σ 320 (z + 584) (nI 0)) 326 (z + 584) (nI (ct - 1))) (z + 584) (mx (V (ct - 1)) v)) (fun b => b = z + 584 ∨ b = z + 585) := ((Ag_sI.tr Ag_sI).tr Ag_VT).up (fun b h => by omega)
    have ev : ∀ i, mA (VT (sI (sI σ 320 (z + 584) (nI 0)) 326 (z + 584) (nI (ct - 1))) (z + 584) (mx (V (ct - 1)) v)) (z + 585) i = nI (mx (V (ct - 1)) v i) := fun i => VT_Az
    generalize VT (sI (sI σ 320 (z + 584) (nI 0)) 326 (z + 584) (nI (ct - 1))) (z + 584) (mx (V (ct - 1)) v) = ρ at *
    have hO : Ok ρ z (B + 20000) (c + 12) := by
      refine ⟨q1.ag g1, mx (V (ct - 1)) v, ct - 1, V, R, ⟨ICv_8 (ICv_ag q2 g1 (fun b hb q => by omega)) hj.1.1.1 mx_lo, ICr_ag q3 g1 (fun b hb q => by omega)⟩, ⟨⟨ev, f6, fun k hk q hq => (g1.A (by omega)).trans (q4.2.2 k (by omega) q hq)⟩, IMr_ag q5 g1 (fun F h1 h2 => f F (by omega) (by omega)) (fun b hb q => by omega)⟩, ?_, JR_mono hJ (by omega) (by omega)⟩
      exact JV_mono (JV_pop hV (JB_8 hj mx_lo (Bd_mx hj.1.2.2 hV.1.1.2.2)) (by omega)) (by omega) (by omega)
    exact cmp_ok (K := (fun ρ => t ≤ 512 ∧ (t ≤ 512 ∧ K (some z) (some (z + 584)) (some (z + 593)) (some (z + 594)) (nI i + nI 3) (t + 1) ρ))) hO.1 f0 (fun _ => by rw [g1.L]; exact eL) (kk2 _ hO)
  · refine s_undo hT hM hV.2.1 (fun c1 => by omega) (fun _ => ?_)
    have hO := ok_s hT hI hR hM hMr hV hJ (k := nI 1)
    exact cmp_ok (K := (fun ρ => t ≤ 512 ∧ (t ≤ 512 ∧ K (some z) (some (z + 584)) (some (z + 593)) (some (z + 594)) (nI i + nI 3) (t + 1) ρ))) hO.1 sI_e (fun e => absurd e (by decide)) (kk2 _ hO)
theorem l_54 (hk : Tn L K z i t B c) (hO : Ok μ z B c) : w_L_law_b2709 G o L xs K (some z) (some (z + 584)) (some (z + 593)) (some (z + 594)) (nI i) t μ := by
  obtain ⟨ht, v1, v2, hb, hc, kk⟩ := hk
  obtain ⟨hT, v, ct, V, R, ⟨hI, hR⟩, ⟨hM, hMr⟩, hV, hJ⟩ := hO
  unfold w_L_law_b2709 w_L_law_b2766
  refine ⟨ht, z, rfl, hT.kz, t_save hT hI.1 hR.1.2.1 hV.1.1.1.1 (fun ν g f5 f6 f7 s => ?_)⟩
  have hT2 := hT.ag g
  have hM2 := IMv_ag hM g (g.I (by omega)) (fun b hb q => by omega)
  have hMr2 := IMr_ag hMr g (fun F _ _ => g.I (by omega)) (fun b hb q => by omega)
  have hI2 := ICv_ag hI g (fun b hb q => by omega)
  refine ⟨z + 584, rfl, hT2.km, s_save hT2 hM2 (fun h hh => ⟨fun _ => ⟨ht, kk _ ?_⟩, fun q => q rfl⟩)⟩
  have g1 : Ag z ν (sI (AT (sI ν 320 (z + 584) (nI 0)) (z + 587) h) 327 (z + 584) (nI 1)) (fun b => b = z + 584 ∨ b = z + 587) := ((Ag_sI.tr Ag_AT).tr Ag_sI).up (fun b h => by omega)
  have f : ∀ F, F ≠ 320 → F ≠ 327 → mI (sI (AT (sI ν 320 (z + 584) (nI 0)) (z + 587) h) 327 (z + 584) (nI 1)) F (z + 584) = mI ν F (z + 584) := fun F h1 h2 => (sI_o (by omega)).trans (AT_I.trans (sI_o (by omega)))
  have f27 : mI (sI (AT (sI ν 320 (z + 584) (nI 0)) (z + 587) h) 327 (z + 584) (nI 1)) 327 (z + 584) = nI 1 := sI_e
  have fv : ∀ q, q < 258 → mA (sI (AT (sI ν 320 (z + 584) (nI 0)) (z + 587) h) 327 (z + 584) (nI 1)) (z + 587) q = nI (v q) := fun q hq => sI_A.trans (AT_A.trans (hh q hq))
  generalize sI (AT (sI ν 320 (z + 584) (nI 0)) (z + 587) h) 327 (z + 584) (nI 1) = ρ at *
  refine ⟨hT2.ag g1, v, ct, V, ((1, v), R.2), ⟨ICv_ag hI2 g1 (fun b hb q => by omega), ?_, ?_, ?_, ?_⟩, ⟨IMv_ag hM2 g1 (f _ (by omega) (by omega)) (fun b hb q => by omega), ⟨f27, fun _ => fv⟩, ?_, ?_, ?_⟩, JV_mono hV (by omega) (by omega), ?_⟩
  · exact ⟨(g1.I (by omega)).trans f5, Sf_ag s.f g1 (fun b h1 h2 q => by omega), fun _ => St_ag s g1 (fun b h1 h2 q => by omega)⟩
  · exact ICt_ag (ICt_ag hR.2.1 g (fun b hb q => by omega)) g1 (fun b hb q => by omega)
  · exact ICe_ag (ICe_ag hR.2.2.1 f6 f7) (g1.I (by omega)) (g1.I (by omega))
  · exact ICo_ag (ICo_ag hR.2.2.2 g (fun b hb q => by omega)) g1 (fun b hb q => by omega)
  · exact ⟨(f _ (by omega) (by omega)).trans hMr2.2.1.1, fun i hi => (g1.A (by omega)).trans (hMr2.2.1.2 i hi)⟩
  · exact ⟨(f _ (by omega) (by omega)).trans hMr2.2.2.1.1, (f _ (by omega) (by omega)).trans hMr2.2.2.1.2⟩
  · exact ⟨(f _ (by omega) (by omega)).trans hMr2.2.2.2.1, fun i hi => (g1.A (by omega)).trans (hMr2.2.2.2.2 i hi)⟩
  · exact ⟨Nat.le_refl _, fun _ => JB_mono hV.1 (by omega) (by omega), hJ.2.2⟩
theorem l_55 (hk : Tn L K z i t B c) (hO : Ok μ z B c) : w_L_law_b2722 G o L xs K (some z) (some (z + 584)) (some (z + 593)) (some (z + 594)) (nI i) t μ := by
  obtain ⟨ht, v1, v2, hb, hc, kk⟩ := hk
  obtain ⟨hT, v, ct, V, R, ⟨hI, hR⟩, ⟨hM, hMr⟩, hV, hJ⟩ := hO
  have kk2 : Kk (fun ρ => t ≤ 512 ∧ (t ≤ 512 ∧ K (some z) (some (z + 584)) (some (z + 593)) (some (z + 594)) (nI i + nI 3) (t + 1) ρ)) z (B + 20000) (c + 12) := fun ρ h => ⟨ht, ht, kk ρ h⟩
  unfold w_L_law_b2722 w_L_law_b2763 w_L_law_b2766 w_L_restore
  refine ⟨ht, z, rfl, hT.kz, t_restore hT hI hR.1 hJ.1 (fun r => (hJ.2.1 r).1.1.1) (fun r1 ν g iv => ?_) (fun r0 => ⟨rfl, z + 584, rfl, hT.km, ?_⟩)⟩
  · obtain ⟨q1, q3, q5, q4⟩ := ok_chg (x := (nI (rV R 2)).toInt64) (j := (nI 0).toNatClampNeg) hT hR hMr hM g
    have q2 : ICv (sL ν (z + 593) (nI 0).toNatClampNeg (nI (rV R 2)).toInt64) z (rV R) 0 V := iv
    have eL : mL (sL ν (z + 593) (nI 0).toNatClampNeg (nI (rV R 2)).toInt64) (z + 593) 0 = (nI (rV R 2)).toInt64 := sL_e0
    refine ⟨z + 593, rfl, (hT.ag g).l.1, lvp (hT.ag g), z + 584, rfl, q1.km, ?_⟩
    generalize sL ν (z + 593) (nI 0).toNatClampNeg (nI (rV R 2)).toInt64 = σ at *
    refine s_restore q1 q4 q5.1 hJ.1 (fun _ => ?_) (fun z => by omega)
    have hj := hJ.2.1 r1
    have f : ∀ F, F ≠ 320 → F ≠ 326 → mI (sI (VT (sI σ 320 (z + 584) (nI 0)) (z + 584) (mx (rV R) v)) 326 (z + 584) (nI 0)) F (z + 584) = mI σ F (z + 584) := fun F h1 h2 => (sI_o (by omega)).trans (VT_I.trans (sI_o (by omega)))
    have f6 : mI (sI (VT (sI σ 320 (z + 584) (nI 0)) (z + 584) (mx (rV R) v)) 326 (z + 584) (nI 0)) 326 (z + 584) = nI 0 := sI_e
    have f0 : mI (sI (VT (sI σ 320 (z + 584) (nI 0)) (z + 584) (mx (rV R) v)) 326 (z + 584) (nI 0)) 320 (z + 584) = nI 0 := (sI_o (by omega)).trans (VT_I.trans sI_e)
    have g1 : Ag z σ (sI (VT (sI σ 320 (z + 584) (nI 0)) (z + 584) (mx (rV R) v)) 326 (z + 584) (nI 0)) (fun b => b = z + 584 ∨ b = z + 585) := ((Ag_sI.tr Ag_VT).tr Ag_sI).up (fun b h => by omega)
    have ev : ∀ i, mA (sI (VT (sI σ 320 (z + 584) (nI 0)) (z + 584) (mx (rV R) v)) 326 (z + 584) (nI 0)) (z + 585) i = nI (mx (rV R) v i) := fun i => sI_A.trans VT_Az
    generalize sI (VT (sI σ 320 (z + 584) (nI 0)) (z + 584) (mx (rV R) v)) 326 (z + 584) (nI 0) = ρ at *
    have hO : Ok ρ z (B + 20000) (c + 12) := by
      refine ⟨q1.ag g1, mx (rV R) v, 0, V, R, ⟨ICv_8 (ICv_ag q2 g1 (fun b hb q => by omega)) hj.1.1.1 mx_lo, ICr_ag q3 g1 (fun b hb q => by omega)⟩, ⟨⟨ev, f6, fun k hk => absurd hk (Nat.not_lt_zero _)⟩, IMr_ag q5 g1 (fun F h1 h2 => f F (by omega) (by omega)) (fun b hb q => by omega)⟩, ?_, JR_mono hJ (by omega) (by omega)⟩
      exact JV_mono (JV_pop hV (JB_8 hj mx_lo (Bd_mx hj.1.2.2 hV.1.1.2.2)) (by omega)) (by omega) (by omega)
    exact cmp_ok (K := (fun ρ => t ≤ 512 ∧ (t ≤ 512 ∧ K (some z) (some (z + 584)) (some (z + 593)) (some (z + 594)) (nI i + nI 3) (t + 1) ρ))) hO.1 f0 (fun _ => by rw [g1.L]; exact eL) (kk2 _ hO)
  · refine s_restore hT hM hMr.1 hJ.1 (fun c1 => by omega) (fun _ => ?_)
    have hO := ok_s hT hI hR hM hMr hV hJ (k := nI 1)
    exact cmp_ok (K := (fun ρ => t ≤ 512 ∧ (t ≤ 512 ∧ K (some z) (some (z + 584)) (some (z + 593)) (some (z + 594)) (nI i + nI 3) (t + 1) ρ))) hO.1 sI_e (fun e => absurd e (by decide)) (kk2 _ hO)
end LAW51

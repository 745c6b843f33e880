/-! THE LAW: YES-OR-NO QUESTIONS -/
section LAWB
variable {G : mgT} {μ ν ρ σ : mmT} {z a b c c2 m i F nx ct t o L : Nat} {S S2 : cT} {v w v0 : Nat → Nat} {V : Nat → Nat → Nat} {R : rT} {B B2 : Nat} {xs : Nat → Int32} {K : Option Nat → Option Nat → Option Nat → Option Nat → Int32 → Nat → mmT → Prop}
theorem cmpG {K : mmT → Prop} {k : Int32} {Z : Nat → Prop} (hT : ST ρ z) (h3 : mI ρ 320 (z + 584) = k) (hK : K ρ) (hZ : k = 0 → Z (z + 593)) :
    mK ρ (z + 584) = 11 ∧ w_X11_thrown G ρ (z + 584) (fun u21 => (u21 = k → (¬ k = 0 → K ρ) ∧ (k = 0 → ∃ a24, some (z + 593) = some a24 ∧ (mK ρ a24 = 35 ∧ (vp_in (nI 0) (mN ρ a24) ∧ Z a24)))) ∧ (¬ u21 = k → False)) :=
  ⟨hT.km, hT.km, fun _ => ⟨fun _ => hK, fun k0 => ⟨z + 593, rfl, hT.l.1, lvp hT, hZ k0⟩⟩, fun q => q h3⟩
theorem bqB {K : mmT → Prop} {W11 : mgT → mmT → Nat → (Int32 → mmT → Prop) → Prop} {r : Int32} {s : Int64} {t : Nat} (ht : t ≤ 512) (hr : (r = 0 ∧ s = lN 0) ∨ (r = 1 ∧ s = lN 1)) (h11 : ∀ G μ m Q, MS μ m → Q r (VT (sI μ 320 m (nI 0)) m v) → W11 G (VT μ m v) m Q) (hT : ST μ z) (hI : ICv μ z v ct V) (hR : ICr μ z R) (hM : IMv μ z v ct V) (hMr : IMr μ z R) (hV : JV B c v ct V) (hJ : JR B c R)
    (kk : Kk K z (B + 20000) (c + 12)) : ∃ a15, some (z + 584) = some a15 ∧ (mK (sL μ (z + 593) (nI 0).toNatClampNeg s) a15 = 11 ∧ W11 G (sL μ (z + 593) (nI 0).toNatClampNeg s) a15 (fun u18 μ19 => mK μ19 a15 = 11 ∧ w_X11_thrown G μ19 a15 (fun u21 => (u21 = nI 0 → (¬ nI 0 = 0 → K μ19) ∧ (nI 0 = 0 → ∃ a24, some (z + 593) = some a24 ∧ (mK μ19 a24 = 35 ∧ (vp_in (nI 0) (mN μ19 a24) ∧ ((u18 = 0 → t ≤ 512 ∧ ((lg_cmp (mL μ19 a24 (nI 0).toNatClampNeg) (lN 0) = 0 → K μ19) ∧ (¬ lg_cmp (mL μ19 a24 (nI 0).toNatClampNeg) (lN 0) = 0 → False))) ∧ (¬ u18 = 0 → t ≤ 512 ∧ ((lg_cmp (mL μ19 a24 (nI 0).toNatClampNeg) (lN 1) = 0 → K μ19) ∧ (¬ lg_cmp (mL μ19 a24 (nI 0).toNatClampNeg) (lN 1) = 0 → False)))))))) ∧ (¬ u21 = nI 0 → False)))) := by
  have q1 : ST (sL μ (z + 593) (nI 0).toNatClampNeg s) z := hT
  have q2 : ICv (sL μ (z + 593) (nI 0).toNatClampNeg s) z v ct V := hI
  have q3 : ICr (sL μ (z + 593) (nI 0).toNatClampNeg s) z R := hR
  have q4 : IMv (sL μ (z + 593) (nI 0).toNatClampNeg s) z v ct V := hM
  have q5 : IMr (sL μ (z + 593) (nI 0).toNatClampNeg s) z R := hMr
  have eL : mL (sL μ (z + 593) (nI 0).toNatClampNeg s) (z + 593) (nI 0).toNatClampNeg = s := sL_e
  generalize sL μ (z + 593) (nI 0).toNatClampNeg s = σ at *
  refine ⟨z + 584, rfl, q1.km, ?_⟩
  have hO := ok_q q1 q2 q3 q4 q5 hV hJ (k := nI 0)
  refine wV (W := fun μ => W11 G μ (z + 584) _) (m := z + 584) q4.1 (h11 G σ (z + 584) _ q1.ms ?_)
  refine cmpG hO.1 (VT_I.trans sI_e) (kk _ hO) (fun _ => ?_)
  have eL2 : mL (VT (sI σ 320 (z + 584) (nI 0)) (z + 584) v) (z + 593) (nI 0).toNatClampNeg = s := eL
  rw [eL2]
  rcases hr with ⟨rfl, rfl⟩ | ⟨rfl, rfl⟩
  · exact ⟨fun _ => ⟨ht, fun _ => kk _ hO, fun q => q lg_self⟩, fun q => absurd rfl q⟩
  · exact ⟨fun q => absurd q (by decide), fun _ => ⟨ht, fun _ => kk _ hO, fun q => q lg_self⟩⟩
theorem bqBF {K : mmT → Prop} {W11 : mgT → mmT → Nat → (Int32 → mmT → Prop) → Prop} {k : Nat} {Z : Int32 → mmT → Nat → Prop} (hk : 0 < k ∧ k < 9) (h11 : ∀ G μ m Q, MS μ m → (∀ r, Q r (VT (sI μ 320 m (nI k)) m v)) → W11 G (VT μ m v) m Q) (hT : ST μ z) (hI : ICv μ z v ct V) (hR : ICr μ z R) (hM : IMv μ z v ct V) (hMr : IMr μ z R) (hV : JV B c v ct V) (hJ : JR B c R)
    (kk : Kk K z (B + 20000) (c + 12)) : ∃ a15, some (z + 584) = some a15 ∧ (mK μ a15 = 11 ∧ W11 G μ a15 (fun u18 μ19 => mK μ19 a15 = 11 ∧ w_X11_thrown G μ19 a15 (fun u21 => (u21 = nI k → (¬ nI k = 0 → K μ19) ∧ (nI k = 0 → ∃ a24, some (z + 593) = some a24 ∧ (mK μ19 a24 = 35 ∧ (vp_in (nI 0) (mN μ19 a24) ∧ Z u18 μ19 a24)))) ∧ (¬ u21 = nI k → False)))) := by
  have hO := ok_q hT hI hR hM hMr hV hJ (k := nI k)
  refine ⟨z + 584, rfl, hT.km, ?_⟩
  refine wV (W := fun μ => W11 G μ (z + 584) _) (m := z + 584) hM.1 (h11 G μ (z + 584) _ hT.ms (fun r => ?_))
  exact cmpG hO.1 (VT_I.trans sI_e) (kk _ hO) (fun e => absurd e (nI_ne0 hk.1 (by omega)))
theorem l_13 (hk : Tn L K z i t B c) (hO : Ok μ z B c) : w_L_law_b993 G o L xs K (some z) (some (z + 584)) (some (z + 593)) (some (z + 594)) (nI i) t μ := by
  obtain ⟨ht, v1, v2, hb, hc, kk⟩ := hk
  obtain ⟨hT, v, ct, V, R, ⟨hI, hR⟩, ⟨hM, hMr⟩, hV, hJ⟩ := hO
  have hj := hV.1.1
  have l := hj.1.1
  have kk2 : Kk (fun ρ => t ≤ 512 ∧ (t ≤ 512 ∧ K (some z) (some (z + 584)) (some (z + 593)) (some (z + 594)) (nI i + nI 3) (t + 1) ρ)) z (B + 20000) (c + 12) := fun ρ h => ⟨ht, ht, kk ρ h⟩
  have hp := q_remembers (x := (xs (nI i + nI 1).toNatClampNeg)) (y := (xs (nI i + nI 2).toNatClampNeg)) l
  unfold w_L_law_b993 w_L_law_b1065 w_L_law_b1059 w_L_law_b2766 w_L_remembers w_L_remembers_b16
  refine ⟨ht, v1, v2, z, rfl, hT.kz, ?_⟩
  rcases hp with ⟨r, hr, h10, h11⟩ | ⟨q, hq, h10, h11⟩
  · refine qx (W10 := (fun G μ z Q X => w_X10_remembers G μ z (xs (nI i + nI 1).toNatClampNeg) (xs (nI i + nI 2).toNatClampNeg) Q X)) (A := fun Q _ => Q r) h10 hT hI.1 ?_
    rcases hr with rfl | rfl
    · exact ⟨fun _ => ⟨z + 593, rfl, hT.l.1, lvp hT, v1, v2, bqB (K := (fun ρ => t ≤ 512 ∧ (t ≤ 512 ∧ K (some z) (some (z + 584)) (some (z + 593)) (some (z + 594)) (nI i + nI 3) (t + 1) ρ))) (W11 := (fun G μ m Q => w_X11_remembers G μ m (xs (nI i + nI 1).toNatClampNeg) (xs (nI i + nI 2).toNatClampNeg) Q)) ht (Or.inl ⟨rfl, rfl⟩) h11 hT hI hR hM hMr hV hJ kk2⟩, fun q => absurd rfl q⟩
    · exact ⟨fun q => absurd q (by decide), fun _ => ⟨z + 593, rfl, hT.l.1, lvp hT, v1, v2, bqB (K := (fun ρ => t ≤ 512 ∧ (t ≤ 512 ∧ K (some z) (some (z + 584)) (some (z + 593)) (some (z + 594)) (nI i + nI 3) (t + 1) ρ))) (W11 := (fun G μ m Q => w_X11_remembers G μ m (xs (nI i + nI 1).toNatClampNeg) (xs (nI i + nI 2).toNatClampNeg) Q)) ht (Or.inr ⟨rfl, rfl⟩) h11 hT hI hR hM hMr hV hJ kk2⟩⟩
  · obtain rfl := List.mem_singleton.mp hq
    exact qx (W10 := (fun G μ z Q X => w_X10_remembers G μ z (xs (nI i + nI 1).toNatClampNeg) (xs (nI i + nI 2).toNatClampNeg) Q X)) (A := fun _ X => X "java/lang/IndexOutOfBoundsException") h10 hT hI.1 ⟨rfl, v1, v2, bqBF (K := (fun ρ => t ≤ 512 ∧ (t ≤ 512 ∧ K (some z) (some (z + 584)) (some (z + 593)) (some (z + 594)) (nI i + nI 3) (t + 1) ρ))) (W11 := (fun G μ m Q => w_X11_remembers G μ m (xs (nI i + nI 1).toNatClampNeg) (xs (nI i + nI 2).toNatClampNeg) Q)) ⟨by decide, by decide⟩ h11 hT hI hR hM hMr hV hJ kk2⟩
theorem l_17 (hk : Tn L K z i t B c) (hO : Ok μ z B c) : w_L_law_b1193 G o L xs K (some z) (some (z + 584)) (some (z + 593)) (some (z + 594)) (nI i) t μ := by
  obtain ⟨ht, v1, v2, hb, hc, kk⟩ := hk
  obtain ⟨hT, v, ct, V, R, ⟨hI, hR⟩, ⟨hM, hMr⟩, hV, hJ⟩ := hO
  have hj := hV.1.1
  have l := hj.1.1
  have kk2 : Kk (fun ρ => t ≤ 512 ∧ (t ≤ 512 ∧ K (some z) (some (z + 584)) (some (z + 593)) (some (z + 594)) (nI i + nI 3) (t + 1) ρ)) z (B + 20000) (c + 12) := fun ρ h => ⟨ht, ht, kk ρ h⟩
  have hp := q_isFlying (x := (xs (nI i + nI 1).toNatClampNeg)) hj (by omega)
  unfold w_L_law_b1193 w_L_law_b1253 w_L_law_b1247 w_L_law_b2766 w_L_isFlying w_L_isFlying_b15
  refine ⟨ht, v1, z, rfl, hT.kz, ?_⟩
  rcases hp with ⟨r, hr, h10, h11⟩ | ⟨q, hq, h10, h11⟩
  · refine qx (W10 := (fun G μ z Q X => w_X10_isFlying G μ z (xs (nI i + nI 1).toNatClampNeg) Q X)) (A := fun Q _ => Q r) h10 hT hI.1 ?_
    rcases hr with rfl | rfl
    · exact ⟨fun _ => ⟨z + 593, rfl, hT.l.1, lvp hT, v1, bqB (K := (fun ρ => t ≤ 512 ∧ (t ≤ 512 ∧ K (some z) (some (z + 584)) (some (z + 593)) (some (z + 594)) (nI i + nI 3) (t + 1) ρ))) (W11 := (fun G μ m Q => w_X11_isFlying G μ m (xs (nI i + nI 1).toNatClampNeg) Q)) ht (Or.inl ⟨rfl, rfl⟩) h11 hT hI hR hM hMr hV hJ kk2⟩, fun q => absurd rfl q⟩
    · exact ⟨fun q => absurd q (by decide), fun _ => ⟨z + 593, rfl, hT.l.1, lvp hT, v1, bqB (K := (fun ρ => t ≤ 512 ∧ (t ≤ 512 ∧ K (some z) (some (z + 584)) (some (z + 593)) (some (z + 594)) (nI i + nI 3) (t + 1) ρ))) (W11 := (fun G μ m Q => w_X11_isFlying G μ m (xs (nI i + nI 1).toNatClampNeg) Q)) ht (Or.inr ⟨rfl, rfl⟩) h11 hT hI hR hM hMr hV hJ kk2⟩⟩
  · obtain rfl := List.mem_singleton.mp hq
    exact qx (W10 := (fun G μ z Q X => w_X10_isFlying G μ z (xs (nI i + nI 1).toNatClampNeg) Q X)) (A := fun _ X => X "java/lang/IndexOutOfBoundsException") h10 hT hI.1 ⟨rfl, v1, bqBF (K := (fun ρ => t ≤ 512 ∧ (t ≤ 512 ∧ K (some z) (some (z + 584)) (some (z + 593)) (some (z + 594)) (nI i + nI 3) (t + 1) ρ))) (W11 := (fun G μ m Q => w_X11_isFlying G μ m (xs (nI i + nI 1).toNatClampNeg) Q)) ⟨by decide, by decide⟩ h11 hT hI hR hM hMr hV hJ kk2⟩
theorem l_28 (hk : Tn L K z i t B c) (hO : Ok μ z B c) : w_L_law_b1773 G o L xs K (some z) (some (z + 584)) (some (z + 593)) (some (z + 594)) (nI i) t μ := by
  obtain ⟨ht, v1, v2, hb, hc, kk⟩ := hk
  obtain ⟨hT, v, ct, V, R, ⟨hI, hR⟩, ⟨hM, hMr⟩, hV, hJ⟩ := hO
  have hj := hV.1.1
  have l := hj.1.1
  have kk2 : Kk (fun ρ => t ≤ 512 ∧ (t ≤ 512 ∧ K (some z) (some (z + 584)) (some (z + 593)) (some (z + 594)) (nI i + nI 3) (t + 1) ρ)) z (B + 20000) (c + 12) := fun ρ h => ⟨ht, ht, kk ρ h⟩
  have hp := q_wouldBeLost (x := (xs (nI i + nI 1).toNatClampNeg)) hj hb.1 (by omega)
  unfold w_L_law_b1773 w_L_law_b1833 w_L_law_b1827 w_L_law_b2766 w_L_wouldBeLost w_L_wouldBeLost_b15
  refine ⟨ht, v1, z, rfl, hT.kz, ?_⟩
  rcases hp with ⟨r, hr, h10, h11⟩ | ⟨q, hq, h10, h11⟩
  · refine qx (W10 := (fun G μ z Q X => w_X10_wouldBeLost G μ z (xs (nI i + nI 1).toNatClampNeg) Q X)) (A := fun Q _ => Q r) h10 hT hI.1 ?_
    rcases hr with rfl | rfl
    · exact ⟨fun _ => ⟨z + 593, rfl, hT.l.1, lvp hT, v1, bqB (K := (fun ρ => t ≤ 512 ∧ (t ≤ 512 ∧ K (some z) (some (z + 584)) (some (z + 593)) (some (z + 594)) (nI i + nI 3) (t + 1) ρ))) (W11 := (fun G μ m Q => w_X11_wouldBeLost G μ m (xs (nI i + nI 1).toNatClampNeg) Q)) ht (Or.inl ⟨rfl, rfl⟩) h11 hT hI hR hM hMr hV hJ kk2⟩, fun q => absurd rfl q⟩
    · exact ⟨fun q => absurd q (by decide), fun _ => ⟨z + 593, rfl, hT.l.1, lvp hT, v1, bqB (K := (fun ρ => t ≤ 512 ∧ (t ≤ 512 ∧ K (some z) (some (z + 584)) (some (z + 593)) (some (z + 594)) (nI i + nI 3) (t + 1) ρ))) (W11 := (fun G μ m Q => w_X11_wouldBeLost G μ m (xs (nI i + nI 1).toNatClampNeg) Q)) ht (Or.inr ⟨rfl, rfl⟩) h11 hT hI hR hM hMr hV hJ kk2⟩⟩
  · rcases List.mem_cons.mp hq with rfl | hq
    · exact qx (W10 := (fun G μ z Q X => w_X10_wouldBeLost G μ z (xs (nI i + nI 1).toNatClampNeg) Q X)) (A := fun _ X => X "java/util/NoSuchElementException") h10 hT hI.1 (Or.inl ⟨rfl, v1, bqBF (K := (fun ρ => t ≤ 512 ∧ (t ≤ 512 ∧ K (some z) (some (z + 584)) (some (z + 593)) (some (z + 594)) (nI i + nI 3) (t + 1) ρ))) (W11 := (fun G μ m Q => w_X11_wouldBeLost G μ m (xs (nI i + nI 1).toNatClampNeg) Q)) ⟨by decide, by decide⟩ h11 hT hI hR hM hMr hV hJ kk2⟩)
    · obtain rfl := List.mem_singleton.mp hq
      exact qx (W10 := (fun G μ z Q X => w_X10_wouldBeLost G μ z (xs (nI i + nI 1).toNatClampNeg) Q X)) (A := fun _ X => X "java/lang/IllegalStateException") h10 hT hI.1 (Or.inr ⟨rfl, v1, bqBF (K := (fun ρ => t ≤ 512 ∧ (t ≤ 512 ∧ K (some z) (some (z + 584)) (some (z + 593)) (some (z + 594)) (nI i + nI 3) (t + 1) ρ))) (W11 := (fun G μ m Q => w_X11_wouldBeLost G μ m (xs (nI i + nI 1).toNatClampNeg) Q)) ⟨by decide, by decide⟩ h11 hT hI hR hM hMr hV hJ kk2⟩)
end LAWB

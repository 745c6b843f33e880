/-! a count: both say the same number -/
section BK
variable {G : mgT} {μ : mmT} {z B c ct : Nat} {v : Nat → Nat} {V : Nat → Nat → Nat} {R : rT}
theorem bk {K : mmT → Prop} {W10 : mgT → mmT → Nat → (Int32 → Prop) → Prop} {W11 : mgT → mmT → Nat → (Int32 → mmT → Prop) → Prop} (h : CP v W10 W11) (hT : ST μ z) (hI : ICv μ z v ct V) (hR : ICr μ z R) (hM : IMv μ z v ct V) (hMr : IMr μ z R) (hV : JV B c v ct V) (hJ : JR B c R)
    (kk : Kk K z (B + 20000) (c + 12)) : ∃ a1, some z = some a1 ∧ (mK μ a1 = 10 ∧ W10 G μ a1 (fun u1 => ∃ a2, some (z + 584) = some a2 ∧ (mK μ a2 = 11 ∧ W11 G μ a2 (fun u2 μ2 => (u1 = u2 → K μ2) ∧ (¬ u1 = u2 → False))))) := by
  obtain ⟨r, h10, h11⟩ := h
  have hO := ok_q hT hI hR hM hMr hV hJ (k := nI 0)
  obtain ⟨S, e1, r1⟩ := hI.1
  have := h10 G μ z S (fun u1 => ∃ a2, some (z + 584) = some a2 ∧ (mK μ a2 = 11 ∧ W11 G μ a2 (fun u2 μ2 => (u1 = u2 → K μ2) ∧ (¬ u1 = u2 → False)))) hT r1 ⟨z + 584, rfl, hT.km, wV (W := fun μ => W11 G μ (z + 584) _) (m := z + 584) hM.1 (h11 G μ (z + 584) _ hT.ms ⟨fun _ => kk _ hO, fun q => q rfl⟩)⟩
  rw [BT_self e1] at this
  exact ⟨z, rfl, hT.kz, this⟩
end BK
/-! THE LAW: QUESTIONS -/
section TURNS2
variable {G : mgT} {μ : mmT} {o L z i t B c : Nat} {xs : Nat → Int32} {K : Option Nat → Option Nat → Option Nat → Option Nat → Int32 → Nat → mmT → Prop}
theorem l_9 (hk : Tn L K z i t B c) (hO : Ok μ z B c) : w_L_law_b757 G o L xs K (some z) (some (z + 584)) (some (z + 593)) (some (z + 594)) (nI i) t μ := by
  obtain ⟨ht, v1, v2, hb, hc, kk⟩ := hk
  obtain ⟨hT, v, ct, V, R, ⟨hI, hR⟩, ⟨hM, hMr⟩, hV, hJ⟩ := hO
  have hj := hV.1.1
  have l := hj.1.1
  have kk2 : Kk (fun ρ => t ≤ 512 ∧ (t ≤ 512 ∧ K (some z) (some (z + 584)) (some (z + 593)) (some (z + 594)) (nI i + nI 3) (t + 1) ρ)) z (B + 20000) (c + 12) := fun ρ h => ⟨ht, ht, kk ρ h⟩
  have hp := q_distance (x := (xs (nI i + nI 1).toNatClampNeg)) l
  unfold w_L_law_b757 w_L_law_b810 w_L_law_b2766 w_L_distance
  refine ⟨ht, v1, z, rfl, hT.kz, ?_⟩
  rcases hp with ⟨r, h10, h11⟩ | ⟨q, hq, h10, h11⟩
  · exact qx (W10 := (fun G μ z Q X => w_X10_distance G μ z (xs (nI i + nI 1).toNatClampNeg) Q X)) (A := fun Q _ => Q r) h10 hT hI.1 ⟨z + 593, rfl, hT.l.1, lvp hT, v1, bqD (K := (fun ρ => t ≤ 512 ∧ (t ≤ 512 ∧ K (some z) (some (z + 584)) (some (z + 593)) (some (z + 594)) (nI i + nI 3) (t + 1) ρ))) (W11 := (fun G μ m Q => w_X11_distance G μ m (xs (nI i + nI 1).toNatClampNeg) Q)) (fun u : Int32 => u.toInt64) h11 hT hI hR hM hMr hV hJ kk2⟩
  · obtain rfl := List.mem_singleton.mp hq
    exact qx (W10 := (fun G μ z Q X => w_X10_distance G μ z (xs (nI i + nI 1).toNatClampNeg) Q X)) (A := fun _ X => X "java/lang/IndexOutOfBoundsException") h10 hT hI.1 ⟨rfl, v1, bqF (K := (fun ρ => t ≤ 512 ∧ (t ≤ 512 ∧ K (some z) (some (z + 584)) (some (z + 593)) (some (z + 594)) (nI i + nI 3) (t + 1) ρ))) (W11 := (fun G μ m Q => w_X11_distance G μ m (xs (nI i + nI 1).toNatClampNeg) Q)) (fun u : Int32 => u.toInt64) ⟨by decide, by decide⟩ h11 hT hI hR hM hMr hV hJ kk2⟩
theorem l_10 (hk : Tn L K z i t B c) (hO : Ok μ z B c) : w_L_law_b813 G o L xs K (some z) (some (z + 584)) (some (z + 593)) (some (z + 594)) (nI i) t μ := by
  obtain ⟨ht, v1, v2, hb, hc, kk⟩ := hk
  obtain ⟨hT, v, ct, V, R, ⟨hI, hR⟩, ⟨hM, hMr⟩, hV, hJ⟩ := hO
  have hj := hV.1.1
  have l := hj.1.1
  have kk2 : Kk (fun ρ => t ≤ 512 ∧ (t ≤ 512 ∧ K (some z) (some (z + 584)) (some (z + 593)) (some (z + 594)) (nI i + nI 3) (t + 1) ρ)) z (B + 20000) (c + 12) := fun ρ h => ⟨ht, ht, kk ρ h⟩
  have hp := q_loss (x := (xs (nI i + nI 1).toNatClampNeg)) l
  unfold w_L_law_b813 w_L_law_b866 w_L_law_b2766 w_L_loss
  refine ⟨ht, v1, z, rfl, hT.kz, ?_⟩
  rcases hp with ⟨r, h10, h11⟩ | ⟨q, hq, h10, h11⟩
  · exact qx (W10 := (fun G μ z Q X => w_X10_loss G μ z (xs (nI i + nI 1).toNatClampNeg) Q X)) (A := fun Q _ => Q r) h10 hT hI.1 ⟨z + 593, rfl, hT.l.1, lvp hT, v1, bqD (K := (fun ρ => t ≤ 512 ∧ (t ≤ 512 ∧ K (some z) (some (z + 584)) (some (z + 593)) (some (z + 594)) (nI i + nI 3) (t + 1) ρ))) (W11 := (fun G μ m Q => w_X11_loss G μ m (xs (nI i + nI 1).toNatClampNeg) Q)) (fun u : Int32 => u.toInt64) h11 hT hI hR hM hMr hV hJ kk2⟩
  · obtain rfl := List.mem_singleton.mp hq
    exact qx (W10 := (fun G μ z Q X => w_X10_loss G μ z (xs (nI i + nI 1).toNatClampNeg) Q X)) (A := fun _ X => X "java/lang/IndexOutOfBoundsException") h10 hT hI.1 ⟨rfl, v1, bqF (K := (fun ρ => t ≤ 512 ∧ (t ≤ 512 ∧ K (some z) (some (z + 584)) (some (z + 593)) (some (z + 594)) (nI i + nI 3) (t + 1) ρ))) (W11 := (fun G μ m Q => w_X11_loss G μ m (xs (nI i + nI 1).toNatClampNeg) Q)) (fun u : Int32 => u.toInt64) ⟨by decide, by decide⟩ h11 hT hI hR hM hMr hV hJ kk2⟩
theorem l_11 (hk : Tn L K z i t B c) (hO : Ok μ z B c) : w_L_law_b869 G o L xs K (some z) (some (z + 584)) (some (z + 593)) (some (z + 594)) (nI i) t μ := by
  obtain ⟨ht, v1, v2, hb, hc, kk⟩ := hk
  obtain ⟨hT, v, ct, V, R, ⟨hI, hR⟩, ⟨hM, hMr⟩, hV, hJ⟩ := hO
  have hj := hV.1.1
  have l := hj.1.1
  have kk2 : Kk (fun ρ => t ≤ 512 ∧ (t ≤ 512 ∧ K (some z) (some (z + 584)) (some (z + 593)) (some (z + 594)) (nI i + nI 3) (t + 1) ρ)) z (B + 20000) (c + 12) := fun ρ h => ⟨ht, ht, kk ρ h⟩
  have hp := q_inboxSize (x := (xs (nI i + nI 1).toNatClampNeg)) l
  unfold w_L_law_b869 w_L_law_b922 w_L_law_b2766 w_L_inboxSize
  refine ⟨ht, v1, z, rfl, hT.kz, ?_⟩
  rcases hp with ⟨r, h10, h11⟩ | ⟨q, hq, h10, h11⟩
  · exact qx (W10 := (fun G μ z Q X => w_X10_inboxSize G μ z (xs (nI i + nI 1).toNatClampNeg) Q X)) (A := fun Q _ => Q r) h10 hT hI.1 ⟨z + 593, rfl, hT.l.1, lvp hT, v1, bqD (K := (fun ρ => t ≤ 512 ∧ (t ≤ 512 ∧ K (some z) (some (z + 584)) (some (z + 593)) (some (z + 594)) (nI i + nI 3) (t + 1) ρ))) (W11 := (fun G μ m Q => w_X11_inboxSize G μ m (xs (nI i + nI 1).toNatClampNeg) Q)) (fun u : Int32 => u.toInt64) h11 hT hI hR hM hMr hV hJ kk2⟩
  · obtain rfl := List.mem_singleton.mp hq
    exact qx (W10 := (fun G μ z Q X => w_X10_inboxSize G μ z (xs (nI i + nI 1).toNatClampNeg) Q X)) (A := fun _ X => X "java/lang/IndexOutOfBoundsException") h10 hT hI.1 ⟨rfl, v1, bqF (K := (fun ρ => t ≤ 512 ∧ (t ≤ 512 ∧ K (some z) (some (z + 584)) (some (z + 593)) (some (z + 594)) (nI i + nI 3) (t + 1) ρ))) (W11 := (fun G μ m Q => w_X11_inboxSize G μ m (xs (nI i + nI 1).toNatClampNeg) Q)) (fun u : Int32 => u.toInt64) ⟨by decide, by decide⟩ h11 hT hI hR hM hMr hV hJ kk2⟩
theorem l_12 (hk : Tn L K z i t B c) (hO : Ok μ z B c) : w_L_law_b925 G o L xs K (some z) (some (z + 584)) (some (z + 593)) (some (z + 594)) (nI i) t μ := by
  obtain ⟨ht, v1, v2, hb, hc, kk⟩ := hk
  obtain ⟨hT, v, ct, V, R, ⟨hI, hR⟩, ⟨hM, hMr⟩, hV, hJ⟩ := hO
  have hj := hV.1.1
  have l := hj.1.1
  have kk2 : Kk (fun ρ => t ≤ 512 ∧ (t ≤ 512 ∧ K (some z) (some (z + 584)) (some (z + 593)) (some (z + 594)) (nI i + nI 3) (t + 1) ρ)) z (B + 20000) (c + 12) := fun ρ h => ⟨ht, ht, kk ρ h⟩
  have hp := q_inboxMessage (x := (xs (nI i + nI 1).toNatClampNeg)) (y := (xs (nI i + nI 2).toNatClampNeg)) l
  unfold w_L_law_b925 w_L_law_b990 w_L_law_b2766 w_L_inboxMessage
  refine ⟨ht, v1, v2, z, rfl, hT.kz, ?_⟩
  rcases hp with ⟨r, h10, h11⟩ | ⟨q, hq, h10, h11⟩
  · exact qx (W10 := (fun G μ z Q X => w_X10_inboxMessage G μ z (xs (nI i + nI 1).toNatClampNeg) (xs (nI i + nI 2).toNatClampNeg) Q X)) (A := fun Q _ => Q r) h10 hT hI.1 ⟨z + 593, rfl, hT.l.1, lvp hT, v1, v2, bqD (K := (fun ρ => t ≤ 512 ∧ (t ≤ 512 ∧ K (some z) (some (z + 584)) (some (z + 593)) (some (z + 594)) (nI i + nI 3) (t + 1) ρ))) (W11 := (fun G μ m Q => w_X11_inboxMessage G μ m (xs (nI i + nI 1).toNatClampNeg) (xs (nI i + nI 2).toNatClampNeg) Q)) (fun u : Int32 => u.toInt64) h11 hT hI hR hM hMr hV hJ kk2⟩
  · rcases List.mem_cons.mp hq with rfl | hq
    · exact qx (W10 := (fun G μ z Q X => w_X10_inboxMessage G μ z (xs (nI i + nI 1).toNatClampNeg) (xs (nI i + nI 2).toNatClampNeg) Q X)) (A := fun _ X => X "java/lang/IndexOutOfBoundsException") h10 hT hI.1 (Or.inl ⟨rfl, v1, v2, bqF (K := (fun ρ => t ≤ 512 ∧ (t ≤ 512 ∧ K (some z) (some (z + 584)) (some (z + 593)) (some (z + 594)) (nI i + nI 3) (t + 1) ρ))) (W11 := (fun G μ m Q => w_X11_inboxMessage G μ m (xs (nI i + nI 1).toNatClampNeg) (xs (nI i + nI 2).toNatClampNeg) Q)) (fun u : Int32 => u.toInt64) ⟨by decide, by decide⟩ h11 hT hI hR hM hMr hV hJ kk2⟩)
    · obtain rfl := List.mem_singleton.mp hq
      exact qx (W10 := (fun G μ z Q X => w_X10_inboxMessage G μ z (xs (nI i + nI 1).toNatClampNeg) (xs (nI i + nI 2).toNatClampNeg) Q X)) (A := fun _ X => X "java/util/NoSuchElementException") h10 hT hI.1 (Or.inr ⟨rfl, v1, v2, bqF (K := (fun ρ => t ≤ 512 ∧ (t ≤ 512 ∧ K (some z) (some (z + 584)) (some (z + 593)) (some (z + 594)) (nI i + nI 3) (t + 1) ρ))) (W11 := (fun G μ m Q => w_X11_inboxMessage G μ m (xs (nI i + nI 1).toNatClampNeg) (xs (nI i + nI 2).toNatClampNeg) Q)) (fun u : Int32 => u.toInt64) ⟨by decide, by decide⟩ h11 hT hI hR hM hMr hV hJ kk2⟩)
theorem l_14 (hk : Tn L K z i t B c) (hO : Ok μ z B c) : w_L_law_b1068 G o L xs K (some z) (some (z + 584)) (some (z + 593)) (some (z + 594)) (nI i) t μ := by
  obtain ⟨ht, v1, v2, hb, hc, kk⟩ := hk
  obtain ⟨hT, v, ct, V, R, ⟨hI, hR⟩, ⟨hM, hMr⟩, hV, hJ⟩ := hO
  have hj := hV.1.1
  have l := hj.1.1
  have kk2 : Kk (fun ρ => t ≤ 512 ∧ (t ≤ 512 ∧ K (some z) (some (z + 584)) (some (z + 593)) (some (z + 594)) (nI i + nI 3) (t + 1) ρ)) z (B + 20000) (c + 12) := fun ρ h => ⟨ht, ht, kk ρ h⟩
  have hp := q_rememberedCount (x := (xs (nI i + nI 1).toNatClampNeg)) l
  unfold w_L_law_b1068 w_L_law_b1121 w_L_law_b2766 w_L_rememberedCount
  refine ⟨ht, v1, z, rfl, hT.kz, ?_⟩
  rcases hp with ⟨r, h10, h11⟩ | ⟨q, hq, h10, h11⟩
  · exact qx (W10 := (fun G μ z Q X => w_X10_rememberedCount G μ z (xs (nI i + nI 1).toNatClampNeg) Q X)) (A := fun Q _ => Q r) h10 hT hI.1 ⟨z + 593, rfl, hT.l.1, lvp hT, v1, bqD (K := (fun ρ => t ≤ 512 ∧ (t ≤ 512 ∧ K (some z) (some (z + 584)) (some (z + 593)) (some (z + 594)) (nI i + nI 3) (t + 1) ρ))) (W11 := (fun G μ m Q => w_X11_rememberedCount G μ m (xs (nI i + nI 1).toNatClampNeg) Q)) (fun u : Int32 => u.toInt64) h11 hT hI hR hM hMr hV hJ kk2⟩
  · obtain rfl := List.mem_singleton.mp hq
    exact qx (W10 := (fun G μ z Q X => w_X10_rememberedCount G μ z (xs (nI i + nI 1).toNatClampNeg) Q X)) (A := fun _ X => X "java/lang/IndexOutOfBoundsException") h10 hT hI.1 ⟨rfl, v1, bqF (K := (fun ρ => t ≤ 512 ∧ (t ≤ 512 ∧ K (some z) (some (z + 584)) (some (z + 593)) (some (z + 594)) (nI i + nI 3) (t + 1) ρ))) (W11 := (fun G μ m Q => w_X11_rememberedCount G μ m (xs (nI i + nI 1).toNatClampNeg) Q)) (fun u : Int32 => u.toInt64) ⟨by decide, by decide⟩ h11 hT hI hR hM hMr hV hJ kk2⟩
theorem l_15 (hk : Tn L K z i t B c) (hO : Ok μ z B c) : w_L_law_b1124 G o L xs K (some z) (some (z + 584)) (some (z + 593)) (some (z + 594)) (nI i) t μ := by
  obtain ⟨ht, v1, v2, hb, hc, kk⟩ := hk
  obtain ⟨hT, v, ct, V, R, ⟨hI, hR⟩, ⟨hM, hMr⟩, hV, hJ⟩ := hO
  have hj := hV.1.1
  have l := hj.1.1
  have kk2 : Kk (fun ρ => t ≤ 512 ∧ (t ≤ 512 ∧ K (some z) (some (z + 584)) (some (z + 593)) (some (z + 594)) (nI i + nI 3) (t + 1) ρ)) z (B + 20000) (c + 12) := fun ρ h => ⟨ht, ht, kk ρ h⟩
  have hp := q_nestByDeliveries (x := (xs (nI i + nI 1).toNatClampNeg)) hj (by omega)
  unfold w_L_law_b1124 w_L_law_b1177 w_L_law_b2766 w_L_nestByDeliveries
  refine ⟨ht, v1, z, rfl, hT.kz, ?_⟩
  rcases hp with ⟨r, h10, h11⟩ | ⟨q, hq, h10, h11⟩
  · exact qx (W10 := (fun G μ z Q X => w_X10_nestByDeliveries G μ z (xs (nI i + nI 1).toNatClampNeg) Q X)) (A := fun Q _ => Q r) h10 hT hI.1 ⟨z + 593, rfl, hT.l.1, lvp hT, v1, bqD (K := (fun ρ => t ≤ 512 ∧ (t ≤ 512 ∧ K (some z) (some (z + 584)) (some (z + 593)) (some (z + 594)) (nI i + nI 3) (t + 1) ρ))) (W11 := (fun G μ m Q => w_X11_nestByDeliveries G μ m (xs (nI i + nI 1).toNatClampNeg) Q)) (fun u : Int32 => u.toInt64) h11 hT hI hR hM hMr hV hJ kk2⟩
  · obtain rfl := List.mem_singleton.mp hq
    exact qx (W10 := (fun G μ z Q X => w_X10_nestByDeliveries G μ z (xs (nI i + nI 1).toNatClampNeg) Q X)) (A := fun _ X => X "java/util/NoSuchElementException") h10 hT hI.1 ⟨rfl, v1, bqF (K := (fun ρ => t ≤ 512 ∧ (t ≤ 512 ∧ K (some z) (some (z + 584)) (some (z + 593)) (some (z + 594)) (nI i + nI 3) (t + 1) ρ))) (W11 := (fun G μ m Q => w_X11_nestByDeliveries G μ m (xs (nI i + nI 1).toNatClampNeg) Q)) (fun u : Int32 => u.toInt64) ⟨by decide, by decide⟩ h11 hT hI hR hM hMr hV hJ kk2⟩
theorem l_18 (hk : Tn L K z i t B c) (hO : Ok μ z B c) : w_L_law_b1256 G o L xs K (some z) (some (z + 584)) (some (z + 593)) (some (z + 594)) (nI i) t μ := by
  obtain ⟨ht, v1, v2, hb, hc, kk⟩ := hk
  obtain ⟨hT, v, ct, V, R, ⟨hI, hR⟩, ⟨hM, hMr⟩, hV, hJ⟩ := hO
  have hj := hV.1.1
  have l := hj.1.1
  have kk2 : Kk (fun ρ => t ≤ 512 ∧ (t ≤ 512 ∧ K (some z) (some (z + 584)) (some (z + 593)) (some (z + 594)) (nI i + nI 3) (t + 1) ρ)) z (B + 20000) (c + 12) := fun ρ h => ⟨ht, ht, kk ρ h⟩
  have hp := q_carriedMessage (x := (xs (nI i + nI 1).toNatClampNeg)) hj (by omega)
  unfold w_L_law_b1256 w_L_law_b1309 w_L_law_b2766 w_L_carriedMessage
  refine ⟨ht, v1, z, rfl, hT.kz, ?_⟩
  rcases hp with ⟨r, h10, h11⟩ | ⟨q, hq, h10, h11⟩
  · exact qx (W10 := (fun G μ z Q X => w_X10_carriedMessage G μ z (xs (nI i + nI 1).toNatClampNeg) Q X)) (A := fun Q _ => Q r) h10 hT hI.1 ⟨z + 593, rfl, hT.l.1, lvp hT, v1, bqD (K := (fun ρ => t ≤ 512 ∧ (t ≤ 512 ∧ K (some z) (some (z + 584)) (some (z + 593)) (some (z + 594)) (nI i + nI 3) (t + 1) ρ))) (W11 := (fun G μ m Q => w_X11_carriedMessage G μ m (xs (nI i + nI 1).toNatClampNeg) Q)) (fun u : Int32 => u.toInt64) h11 hT hI hR hM hMr hV hJ kk2⟩
  · rcases List.mem_cons.mp hq with rfl | hq
    · exact qx (W10 := (fun G μ z Q X => w_X10_carriedMessage G μ z (xs (nI i + nI 1).toNatClampNeg) Q X)) (A := fun _ X => X "java/lang/IndexOutOfBoundsException") h10 hT hI.1 (Or.inl ⟨rfl, v1, bqF (K := (fun ρ => t ≤ 512 ∧ (t ≤ 512 ∧ K (some z) (some (z + 584)) (some (z + 593)) (some (z + 594)) (nI i + nI 3) (t + 1) ρ))) (W11 := (fun G μ m Q => w_X11_carriedMessage G μ m (xs (nI i + nI 1).toNatClampNeg) Q)) (fun u : Int32 => u.toInt64) ⟨by decide, by decide⟩ h11 hT hI hR hM hMr hV hJ kk2⟩)
    · obtain rfl := List.mem_singleton.mp hq
      exact qx (W10 := (fun G μ z Q X => w_X10_carriedMessage G μ z (xs (nI i + nI 1).toNatClampNeg) Q X)) (A := fun _ X => X "java/util/NoSuchElementException") h10 hT hI.1 (Or.inr ⟨rfl, v1, bqF (K := (fun ρ => t ≤ 512 ∧ (t ≤ 512 ∧ K (some z) (some (z + 584)) (some (z + 593)) (some (z + 594)) (nI i + nI 3) (t + 1) ρ))) (W11 := (fun G μ m Q => w_X11_carriedMessage G μ m (xs (nI i + nI 1).toNatClampNeg) Q)) (fun u : Int32 => u.toInt64) ⟨by decide, by decide⟩ h11 hT hI hR hM hMr hV hJ kk2⟩)
theorem l_19 (hk : Tn L K z i t B c) (hO : Ok μ z B c) : w_L_law_b1312 G o L xs K (some z) (some (z + 584)) (some (z + 593)) (some (z + 594)) (nI i) t μ := by
  obtain ⟨ht, v1, v2, hb, hc, kk⟩ := hk
  obtain ⟨hT, v, ct, V, R, ⟨hI, hR⟩, ⟨hM, hMr⟩, hV, hJ⟩ := hO
  have hj := hV.1.1
  have l := hj.1.1
  have kk2 : Kk (fun ρ => t ≤ 512 ∧ (t ≤ 512 ∧ K (some z) (some (z + 584)) (some (z + 593)) (some (z + 594)) (nI i + nI 3) (t + 1) ρ)) z (B + 20000) (c + 12) := fun ρ h => ⟨ht, ht, kk ρ h⟩
  have hp := q_flightMinutes (x := (xs (nI i + nI 1).toNatClampNeg)) hj (by omega) hV.1.2.2
  unfold w_L_law_b1312 w_L_law_b1365 w_L_law_b2766 w_L_flightMinutes
  refine ⟨ht, v1, z, rfl, hT.kz, ?_⟩
  rcases hp with ⟨r, h10, h11⟩ | ⟨q, hq, h10, h11⟩
  · exact qx (W10 := (fun G μ z Q X => w_X10_flightMinutes G μ z (xs (nI i + nI 1).toNatClampNeg) Q X)) (A := fun Q _ => Q r) h10 hT hI.1 ⟨z + 593, rfl, hT.l.1, lvp hT, v1, bqD (K := (fun ρ => t ≤ 512 ∧ (t ≤ 512 ∧ K (some z) (some (z + 584)) (some (z + 593)) (some (z + 594)) (nI i + nI 3) (t + 1) ρ))) (W11 := (fun G μ m Q => w_X11_flightMinutes G μ m (xs (nI i + nI 1).toNatClampNeg) Q)) (fun u : Int32 => u.toInt64) h11 hT hI hR hM hMr hV hJ kk2⟩
  · obtain rfl := List.mem_singleton.mp hq
    exact qx (W10 := (fun G μ z Q X => w_X10_flightMinutes G μ z (xs (nI i + nI 1).toNatClampNeg) Q X)) (A := fun _ X => X "java/lang/IndexOutOfBoundsException") h10 hT hI.1 ⟨rfl, v1, bqF (K := (fun ρ => t ≤ 512 ∧ (t ≤ 512 ∧ K (some z) (some (z + 584)) (some (z + 593)) (some (z + 594)) (nI i + nI 3) (t + 1) ρ))) (W11 := (fun G μ m Q => w_X11_flightMinutes G μ m (xs (nI i + nI 1).toNatClampNeg) Q)) (fun u : Int32 => u.toInt64) ⟨by decide, by decide⟩ h11 hT hI hR hM hMr hV hJ kk2⟩
theorem l_21 (hk : Tn L K z i t B c) (hO : Ok μ z B c) : w_L_law_b1381 G o L xs K (some z) (some (z + 584)) (some (z + 593)) (some (z + 594)) (nI i) t μ := by
  obtain ⟨ht, v1, v2, hb, hc, kk⟩ := hk
  obtain ⟨hT, v, ct, V, R, ⟨hI, hR⟩, ⟨hM, hMr⟩, hV, hJ⟩ := hO
  have hj := hV.1.1
  have l := hj.1.1
  have kk2 : Kk (fun ρ => t ≤ 512 ∧ (t ≤ 512 ∧ K (some z) (some (z + 584)) (some (z + 593)) (some (z + 594)) (nI i + nI 3) (t + 1) ρ)) z (B + 20000) (c + 12) := fun ρ h => ⟨ht, ht, kk ρ h⟩
  have hp := q_messageAt (x := (xs (nI i + nI 1).toNatClampNeg)) l
  unfold w_L_law_b1381 w_L_law_b1434 w_L_law_b2766 w_L_messageAt
  refine ⟨ht, v1, z, rfl, hT.kz, ?_⟩
  rcases hp with ⟨r, h10, h11⟩ | ⟨q, hq, h10, h11⟩
  · exact qx (W10 := (fun G μ z Q X => w_X10_messageAt G μ z (xs (nI i + nI 1).toNatClampNeg) Q X)) (A := fun Q _ => Q r) h10 hT hI.1 ⟨z + 593, rfl, hT.l.1, lvp hT, v1, bqD (K := (fun ρ => t ≤ 512 ∧ (t ≤ 512 ∧ K (some z) (some (z + 584)) (some (z + 593)) (some (z + 594)) (nI i + nI 3) (t + 1) ρ))) (W11 := (fun G μ m Q => w_X11_messageAt G μ m (xs (nI i + nI 1).toNatClampNeg) Q)) (fun u : Int32 => u.toInt64) h11 hT hI hR hM hMr hV hJ kk2⟩
  · obtain rfl := List.mem_singleton.mp hq
    exact qx (W10 := (fun G μ z Q X => w_X10_messageAt G μ z (xs (nI i + nI 1).toNatClampNeg) Q X)) (A := fun _ X => X "java/util/NoSuchElementException") h10 hT hI.1 ⟨rfl, v1, bqF (K := (fun ρ => t ≤ 512 ∧ (t ≤ 512 ∧ K (some z) (some (z + 584)) (some (z + 593)) (some (z + 594)) (nI i + nI 3) (t + 1) ρ))) (W11 := (fun G μ m Q => w_X11_messageAt G μ m (xs (nI i + nI 1).toNatClampNeg) Q)) (fun u : Int32 => u.toInt64) ⟨by decide, by decide⟩ h11 hT hI hR hM hMr hV hJ kk2⟩
theorem l_22 (hk : Tn L K z i t B c) (hO : Ok μ z B c) : w_L_law_b1437 G o L xs K (some z) (some (z + 584)) (some (z + 593)) (some (z + 594)) (nI i) t μ := by
  obtain ⟨ht, v1, v2, hb, hc, kk⟩ := hk
  obtain ⟨hT, v, ct, V, R, ⟨hI, hR⟩, ⟨hM, hMr⟩, hV, hJ⟩ := hO
  have hj := hV.1.1
  have l := hj.1.1
  have kk2 : Kk (fun ρ => t ≤ 512 ∧ (t ≤ 512 ∧ K (some z) (some (z + 584)) (some (z + 593)) (some (z + 594)) (nI i + nI 3) (t + 1) ρ)) z (B + 20000) (c + 12) := fun ρ h => ⟨ht, ht, kk ρ h⟩
  have hp := q_nestOf (x := (xs (nI i + nI 1).toNatClampNeg)) l
  unfold w_L_law_b1437 w_L_law_b1490 w_L_law_b2766 w_L_nestOf
  refine ⟨ht, v1, z, rfl, hT.kz, ?_⟩
  rcases hp with ⟨r, h10, h11⟩ | ⟨q, hq, h10, h11⟩
  · exact qx (W10 := (fun G μ z Q X => w_X10_nestOf G μ z (xs (nI i + nI 1).toNatClampNeg) Q X)) (A := fun Q _ => Q r) h10 hT hI.1 ⟨z + 593, rfl, hT.l.1, lvp hT, v1, bqD (K := (fun ρ => t ≤ 512 ∧ (t ≤ 512 ∧ K (some z) (some (z + 584)) (some (z + 593)) (some (z + 594)) (nI i + nI 3) (t + 1) ρ))) (W11 := (fun G μ m Q => w_X11_nestOf G μ m (xs (nI i + nI 1).toNatClampNeg) Q)) (fun u : Int32 => u.toInt64) h11 hT hI hR hM hMr hV hJ kk2⟩
  · obtain rfl := List.mem_singleton.mp hq
    exact qx (W10 := (fun G μ z Q X => w_X10_nestOf G μ z (xs (nI i + nI 1).toNatClampNeg) Q X)) (A := fun _ X => X "java/util/NoSuchElementException") h10 hT hI.1 ⟨rfl, v1, bqF (K := (fun ρ => t ≤ 512 ∧ (t ≤ 512 ∧ K (some z) (some (z + 584)) (some (z + 593)) (some (z + 594)) (nI i + nI 3) (t + 1) ρ))) (W11 := (fun G μ m Q => w_X11_nestOf G μ m (xs (nI i + nI 1).toNatClampNeg) Q)) (fun u : Int32 => u.toInt64) ⟨by decide, by decide⟩ h11 hT hI hR hM hMr hV hJ kk2⟩
theorem l_23 (hk : Tn L K z i t B c) (hO : Ok μ z B c) : w_L_law_b1493 G o L xs K (some z) (some (z + 584)) (some (z + 593)) (some (z + 594)) (nI i) t μ := by
  obtain ⟨ht, v1, v2, hb, hc, kk⟩ := hk
  obtain ⟨hT, v, ct, V, R, ⟨hI, hR⟩, ⟨hM, hMr⟩, hV, hJ⟩ := hO
  have hj := hV.1.1
  have l := hj.1.1
  have kk2 : Kk (fun ρ => t ≤ 512 ∧ (t ≤ 512 ∧ K (some z) (some (z + 584)) (some (z + 593)) (some (z + 594)) (nI i + nI 3) (t + 1) ρ)) z (B + 20000) (c + 12) := fun ρ h => ⟨ht, ht, kk ρ h⟩
  have hp := q_keyOf (x := (xs (nI i + nI 1).toNatClampNeg)) l
  unfold w_L_law_b1493 w_L_law_b1546 w_L_law_b2766 w_L_keyOf
  refine ⟨ht, v1, z, rfl, hT.kz, ?_⟩
  rcases hp with ⟨r, h10, h11⟩ | ⟨q, hq, h10, h11⟩
  · exact qx (W10 := (fun G μ z Q X => w_X10_keyOf G μ z (xs (nI i + nI 1).toNatClampNeg) Q X)) (A := fun Q _ => Q r) h10 hT hI.1 ⟨z + 593, rfl, hT.l.1, lvp hT, v1, bqD (K := (fun ρ => t ≤ 512 ∧ (t ≤ 512 ∧ K (some z) (some (z + 584)) (some (z + 593)) (some (z + 594)) (nI i + nI 3) (t + 1) ρ))) (W11 := (fun G μ m Q => w_X11_keyOf G μ m (xs (nI i + nI 1).toNatClampNeg) Q)) (fun u : Int32 => u.toInt64) h11 hT hI hR hM hMr hV hJ kk2⟩
  · obtain rfl := List.mem_singleton.mp hq
    exact qx (W10 := (fun G μ z Q X => w_X10_keyOf G μ z (xs (nI i + nI 1).toNatClampNeg) Q X)) (A := fun _ X => X "java/util/NoSuchElementException") h10 hT hI.1 ⟨rfl, v1, bqF (K := (fun ρ => t ≤ 512 ∧ (t ≤ 512 ∧ K (some z) (some (z + 584)) (some (z + 593)) (some (z + 594)) (nI i + nI 3) (t + 1) ρ))) (W11 := (fun G μ m Q => w_X11_keyOf G μ m (xs (nI i + nI 1).toNatClampNeg) Q)) (fun u : Int32 => u.toInt64) ⟨by decide, by decide⟩ h11 hT hI hR hM hMr hV hJ kk2⟩
theorem l_24 (hk : Tn L K z i t B c) (hO : Ok μ z B c) : w_L_law_b1549 G o L xs K (some z) (some (z + 584)) (some (z + 593)) (some (z + 594)) (nI i) t μ := by
  obtain ⟨ht, v1, v2, hb, hc, kk⟩ := hk
  obtain ⟨hT, v, ct, V, R, ⟨hI, hR⟩, ⟨hM, hMr⟩, hV, hJ⟩ := hO
  have hj := hV.1.1
  have l := hj.1.1
  have kk2 : Kk (fun ρ => t ≤ 512 ∧ (t ≤ 512 ∧ K (some z) (some (z + 584)) (some (z + 593)) (some (z + 594)) (nI i + nI 3) (t + 1) ρ)) z (B + 20000) (c + 12) := fun ρ h => ⟨ht, ht, kk ρ h⟩
  have hp := q_attempts (x := (xs (nI i + nI 1).toNatClampNeg)) l
  unfold w_L_law_b1549 w_L_law_b1602 w_L_law_b2766 w_L_attempts
  refine ⟨ht, v1, z, rfl, hT.kz, ?_⟩
  rcases hp with ⟨r, h10, h11⟩ | ⟨q, hq, h10, h11⟩
  · exact qx (W10 := (fun G μ z Q X => w_X10_attempts G μ z (xs (nI i + nI 1).toNatClampNeg) Q X)) (A := fun Q _ => Q r) h10 hT hI.1 ⟨z + 593, rfl, hT.l.1, lvp hT, v1, bqD (K := (fun ρ => t ≤ 512 ∧ (t ≤ 512 ∧ K (some z) (some (z + 584)) (some (z + 593)) (some (z + 594)) (nI i + nI 3) (t + 1) ρ))) (W11 := (fun G μ m Q => w_X11_attempts G μ m (xs (nI i + nI 1).toNatClampNeg) Q)) (fun u : Int32 => u.toInt64) h11 hT hI hR hM hMr hV hJ kk2⟩
  · obtain rfl := List.mem_singleton.mp hq
    exact qx (W10 := (fun G μ z Q X => w_X10_attempts G μ z (xs (nI i + nI 1).toNatClampNeg) Q X)) (A := fun _ X => X "java/util/NoSuchElementException") h10 hT hI.1 ⟨rfl, v1, bqF (K := (fun ρ => t ≤ 512 ∧ (t ≤ 512 ∧ K (some z) (some (z + 584)) (some (z + 593)) (some (z + 594)) (nI i + nI 3) (t + 1) ρ))) (W11 := (fun G μ m Q => w_X11_attempts G μ m (xs (nI i + nI 1).toNatClampNeg) Q)) (fun u : Int32 => u.toInt64) ⟨by decide, by decide⟩ h11 hT hI hR hM hMr hV hJ kk2⟩
theorem l_25 (hk : Tn L K z i t B c) (hO : Ok μ z B c) : w_L_law_b1605 G o L xs K (some z) (some (z + 584)) (some (z + 593)) (some (z + 594)) (nI i) t μ := by
  obtain ⟨ht, v1, v2, hb, hc, kk⟩ := hk
  obtain ⟨hT, v, ct, V, R, ⟨hI, hR⟩, ⟨hM, hMr⟩, hV, hJ⟩ := hO
  have hj := hV.1.1
  have l := hj.1.1
  have kk2 : Kk (fun ρ => t ≤ 512 ∧ (t ≤ 512 ∧ K (some z) (some (z + 584)) (some (z + 593)) (some (z + 594)) (nI i + nI 3) (t + 1) ρ)) z (B + 20000) (c + 12) := fun ρ h => ⟨ht, ht, kk ρ h⟩
  have hp := q_status (x := (xs (nI i + nI 1).toNatClampNeg)) hj
  unfold w_L_law_b1605 w_L_law_b1658 w_L_law_b2766 w_L_status
  refine ⟨ht, v1, z, rfl, hT.kz, ?_⟩
  rcases hp with ⟨r, h10, h11⟩ | ⟨q, hq, h10, h11⟩
  · exact qx (W10 := (fun G μ z Q X => w_X10_status G μ z (xs (nI i + nI 1).toNatClampNeg) Q X)) (A := fun Q _ => Q r) h10 hT hI.1 ⟨z + 593, rfl, hT.l.1, lvp hT, v1, bqD (K := (fun ρ => t ≤ 512 ∧ (t ≤ 512 ∧ K (some z) (some (z + 584)) (some (z + 593)) (some (z + 594)) (nI i + nI 3) (t + 1) ρ))) (W11 := (fun G μ m Q => w_X11_status G μ m (xs (nI i + nI 1).toNatClampNeg) Q)) (fun u : Int32 => u.toInt64) h11 hT hI hR hM hMr hV hJ kk2⟩
  · obtain rfl := List.mem_singleton.mp hq
    exact qx (W10 := (fun G μ z Q X => w_X10_status G μ z (xs (nI i + nI 1).toNatClampNeg) Q X)) (A := fun _ X => X "java/util/NoSuchElementException") h10 hT hI.1 ⟨rfl, v1, bqF (K := (fun ρ => t ≤ 512 ∧ (t ≤ 512 ∧ K (some z) (some (z + 584)) (some (z + 593)) (some (z + 594)) (nI i + nI 3) (t + 1) ρ))) (W11 := (fun G μ m Q => w_X11_status G μ m (xs (nI i + nI 1).toNatClampNeg) Q)) (fun u : Int32 => u.toInt64) ⟨by decide, by decide⟩ h11 hT hI hR hM hMr hV hJ kk2⟩
theorem l_26 (hk : Tn L K z i t B c) (hO : Ok μ z B c) : w_L_law_b1661 G o L xs K (some z) (some (z + 584)) (some (z + 593)) (some (z + 594)) (nI i) t μ := by
  obtain ⟨ht, v1, v2, hb, hc, kk⟩ := hk
  obtain ⟨hT, v, ct, V, R, ⟨hI, hR⟩, ⟨hM, hMr⟩, hV, hJ⟩ := hO
  have hj := hV.1.1
  have l := hj.1.1
  have kk2 : Kk (fun ρ => t ≤ 512 ∧ (t ≤ 512 ∧ K (some z) (some (z + 584)) (some (z + 593)) (some (z + 594)) (nI i + nI 3) (t + 1) ρ)) z (B + 20000) (c + 12) := fun ρ h => ⟨ht, ht, kk ρ h⟩
  have hp := q_napMinutes (x := (xs (nI i + nI 1).toNatClampNeg)) hj (by omega)
  unfold w_L_law_b1661 w_L_law_b1714 w_L_law_b2766 w_L_napMinutes
  refine ⟨ht, v1, z, rfl, hT.kz, ?_⟩
  rcases hp with ⟨r, h10, h11⟩ | ⟨q, hq, h10, h11⟩
  · exact qx (W10 := (fun G μ z Q X => w_X10_napMinutes G μ z (xs (nI i + nI 1).toNatClampNeg) Q X)) (A := fun Q _ => Q r) h10 hT hI.1 ⟨z + 593, rfl, hT.l.1, lvp hT, v1, bqD (K := (fun ρ => t ≤ 512 ∧ (t ≤ 512 ∧ K (some z) (some (z + 584)) (some (z + 593)) (some (z + 594)) (nI i + nI 3) (t + 1) ρ))) (W11 := (fun G μ m Q => w_X11_napMinutes G μ m (xs (nI i + nI 1).toNatClampNeg) Q)) (fun u : Int32 => u.toInt64) h11 hT hI hR hM hMr hV hJ kk2⟩
  · rcases List.mem_cons.mp hq with rfl | hq
    · exact qx (W10 := (fun G μ z Q X => w_X10_napMinutes G μ z (xs (nI i + nI 1).toNatClampNeg) Q X)) (A := fun _ X => X "java/util/NoSuchElementException") h10 hT hI.1 (Or.inl ⟨rfl, v1, bqF (K := (fun ρ => t ≤ 512 ∧ (t ≤ 512 ∧ K (some z) (some (z + 584)) (some (z + 593)) (some (z + 594)) (nI i + nI 3) (t + 1) ρ))) (W11 := (fun G μ m Q => w_X11_napMinutes G μ m (xs (nI i + nI 1).toNatClampNeg) Q)) (fun u : Int32 => u.toInt64) ⟨by decide, by decide⟩ h11 hT hI hR hM hMr hV hJ kk2⟩)
    · obtain rfl := List.mem_singleton.mp hq
      exact qx (W10 := (fun G μ z Q X => w_X10_napMinutes G μ z (xs (nI i + nI 1).toNatClampNeg) Q X)) (A := fun _ X => X "java/lang/IllegalStateException") h10 hT hI.1 (Or.inr ⟨rfl, v1, bqF (K := (fun ρ => t ≤ 512 ∧ (t ≤ 512 ∧ K (some z) (some (z + 584)) (some (z + 593)) (some (z + 594)) (nI i + nI 3) (t + 1) ρ))) (W11 := (fun G μ m Q => w_X11_napMinutes G μ m (xs (nI i + nI 1).toNatClampNeg) Q)) (fun u : Int32 => u.toInt64) ⟨by decide, by decide⟩ h11 hT hI hR hM hMr hV hJ kk2⟩)
theorem l_27 (hk : Tn L K z i t B c) (hO : Ok μ z B c) : w_L_law_b1717 G o L xs K (some z) (some (z + 584)) (some (z + 593)) (some (z + 594)) (nI i) t μ := by
  obtain ⟨ht, v1, v2, hb, hc, kk⟩ := hk
  obtain ⟨hT, v, ct, V, R, ⟨hI, hR⟩, ⟨hM, hMr⟩, hV, hJ⟩ := hO
  have hj := hV.1.1
  have l := hj.1.1
  have kk2 : Kk (fun ρ => t ≤ 512 ∧ (t ≤ 512 ∧ K (some z) (some (z + 584)) (some (z + 593)) (some (z + 594)) (nI i + nI 3) (t + 1) ρ)) z (B + 20000) (c + 12) := fun ρ h => ⟨ht, ht, kk ρ h⟩
  have hp := q_waitingMessage (x := (xs (nI i + nI 1).toNatClampNeg)) hj (by omega)
  unfold w_L_law_b1717 w_L_law_b1770 w_L_law_b2766 w_L_waitingMessage
  refine ⟨ht, v1, z, rfl, hT.kz, ?_⟩
  rcases hp with ⟨r, h10, h11⟩ | ⟨q, hq, h10, h11⟩
  · exact qx (W10 := (fun G μ z Q X => w_X10_waitingMessage G μ z (xs (nI i + nI 1).toNatClampNeg) Q X)) (A := fun Q _ => Q r) h10 hT hI.1 ⟨z + 593, rfl, hT.l.1, lvp hT, v1, bqD (K := (fun ρ => t ≤ 512 ∧ (t ≤ 512 ∧ K (some z) (some (z + 584)) (some (z + 593)) (some (z + 594)) (nI i + nI 3) (t + 1) ρ))) (W11 := (fun G μ m Q => w_X11_waitingMessage G μ m (xs (nI i + nI 1).toNatClampNeg) Q)) (fun u : Int32 => u.toInt64) h11 hT hI hR hM hMr hV hJ kk2⟩
  · obtain rfl := List.mem_singleton.mp hq
    exact qx (W10 := (fun G μ z Q X => w_X10_waitingMessage G μ z (xs (nI i + nI 1).toNatClampNeg) Q X)) (A := fun _ X => X "java/util/NoSuchElementException") h10 hT hI.1 ⟨rfl, v1, bqF (K := (fun ρ => t ≤ 512 ∧ (t ≤ 512 ∧ K (some z) (some (z + 584)) (some (z + 593)) (some (z + 594)) (nI i + nI 3) (t + 1) ρ))) (W11 := (fun G μ m Q => w_X11_waitingMessage G μ m (xs (nI i + nI 1).toNatClampNeg) Q)) (fun u : Int32 => u.toInt64) ⟨by decide, by decide⟩ h11 hT hI hR hM hMr hV hJ kk2⟩
theorem l_29 (hk : Tn L K z i t B c) (hO : Ok μ z B c) : w_L_law_b1836 G o L xs K (some z) (some (z + 584)) (some (z + 593)) (some (z + 594)) (nI i) t μ := by
  obtain ⟨ht, v1, v2, hb, hc, kk⟩ := hk
  obtain ⟨hT, v, ct, V, R, ⟨hI, hR⟩, ⟨hM, hMr⟩, hV, hJ⟩ := hO
  have hj := hV.1.1
  have l := hj.1.1
  have kk2 : Kk (fun ρ => t ≤ 512 ∧ (t ≤ 512 ∧ K (some z) (some (z + 584)) (some (z + 593)) (some (z + 594)) (nI i + nI 3) (t + 1) ρ)) z (B + 20000) (c + 12) := fun ρ h => ⟨ht, ht, kk ρ h⟩
  have hp := q_napLength (v := v) (x := (xs (nI i + nI 1).toNatClampNeg)) 
  unfold w_L_law_b1836 w_L_law_b1888 w_L_law_b2766 w_L_napLength
  refine ⟨ht, v1, z, rfl, hT.kz, ?_⟩
  rcases hp with ⟨r, h10, h11⟩ | ⟨q, hq, h10, h11⟩
  · exact qx (W10 := (fun G μ z Q X => w_X10_napLength G μ z (xs (nI i + nI 1).toNatClampNeg) Q X)) (A := fun Q _ => Q r) h10 hT hI.1 ⟨z + 593, rfl, hT.l.1, lvp hT, v1, bqD (K := (fun ρ => t ≤ 512 ∧ (t ≤ 512 ∧ K (some z) (some (z + 584)) (some (z + 593)) (some (z + 594)) (nI i + nI 3) (t + 1) ρ))) (W11 := (fun G μ m Q => w_X11_napLength G μ m (xs (nI i + nI 1).toNatClampNeg) Q)) (fun u : Int64 => u) h11 hT hI hR hM hMr hV hJ kk2⟩
  · obtain rfl := List.mem_singleton.mp hq
    exact qx (W10 := (fun G μ z Q X => w_X10_napLength G μ z (xs (nI i + nI 1).toNatClampNeg) Q X)) (A := fun _ X => X "java/lang/IllegalArgumentException") h10 hT hI.1 ⟨rfl, v1, bqF (K := (fun ρ => t ≤ 512 ∧ (t ≤ 512 ∧ K (some z) (some (z + 584)) (some (z + 593)) (some (z + 594)) (nI i + nI 3) (t + 1) ρ))) (W11 := (fun G μ m Q => w_X11_napLength G μ m (xs (nI i + nI 1).toNatClampNeg) Q)) (fun u : Int64 => u) ⟨by decide, by decide⟩ h11 hT hI hR hM hMr hV hJ kk2⟩
theorem l_30 (hk : Tn L K z i t B c) (hO : Ok μ z B c) : w_L_law_b1891 G o L xs K (some z) (some (z + 584)) (some (z + 593)) (some (z + 594)) (nI i) t μ := by
  obtain ⟨ht, v1, v2, hb, hc, kk⟩ := hk
  obtain ⟨hT, v, ct, V, R, ⟨hI, hR⟩, ⟨hM, hMr⟩, hV, hJ⟩ := hO
  have hj := hV.1.1
  have l := hj.1.1
  have kk2 : Kk (fun ρ => t ≤ 512 ∧ (t ≤ 512 ∧ K (some z) (some (z + 584)) (some (z + 593)) (some (z + 594)) (nI i + nI 3) (t + 1) ρ)) z (B + 20000) (c + 12) := fun ρ h => ⟨ht, ht, kk ρ h⟩
  have hp := q_napLengthByDoubling (v := v) (x := (xs (nI i + nI 1).toNatClampNeg)) 
  unfold w_L_law_b1891 w_L_law_b1943 w_L_law_b2766 w_L_napLengthByDoubling
  refine ⟨ht, v1, z, rfl, hT.kz, ?_⟩
  rcases hp with ⟨r, h10, h11⟩ | ⟨q, hq, h10, h11⟩
  · exact qx (W10 := (fun G μ z Q X => w_X10_napLengthByDoubling G μ z (xs (nI i + nI 1).toNatClampNeg) Q X)) (A := fun Q _ => Q r) h10 hT hI.1 ⟨z + 593, rfl, hT.l.1, lvp hT, v1, bqD (K := (fun ρ => t ≤ 512 ∧ (t ≤ 512 ∧ K (some z) (some (z + 584)) (some (z + 593)) (some (z + 594)) (nI i + nI 3) (t + 1) ρ))) (W11 := (fun G μ m Q => w_X11_napLengthByDoubling G μ m (xs (nI i + nI 1).toNatClampNeg) Q)) (fun u : Int64 => u) h11 hT hI hR hM hMr hV hJ kk2⟩
  · obtain rfl := List.mem_singleton.mp hq
    exact qx (W10 := (fun G μ z Q X => w_X10_napLengthByDoubling G μ z (xs (nI i + nI 1).toNatClampNeg) Q X)) (A := fun _ X => X "java/lang/IllegalArgumentException") h10 hT hI.1 ⟨rfl, v1, bqF (K := (fun ρ => t ≤ 512 ∧ (t ≤ 512 ∧ K (some z) (some (z + 584)) (some (z + 593)) (some (z + 594)) (nI i + nI 3) (t + 1) ρ))) (W11 := (fun G μ m Q => w_X11_napLengthByDoubling G μ m (xs (nI i + nI 1).toNatClampNeg) Q)) (fun u : Int64 => u) ⟨by decide, by decide⟩ h11 hT hI hR hM hMr hV hJ kk2⟩
theorem l_8 (hk : Tn L K z i t B c) (hO : Ok μ z B c) : w_L_law_b744 G o L xs K (some z) (some (z + 584)) (some (z + 593)) (some (z + 594)) (nI i) t μ := by
  obtain ⟨ht, v1, v2, hb, hc, kk⟩ := hk
  obtain ⟨hT, v, ct, V, R, ⟨hI, hR⟩, ⟨hM, hMr⟩, hV, hJ⟩ := hO
  have hj := hV.1.1
  have l := hj.1.1
  have kk2 : Kk (fun ρ => t ≤ 512 ∧ K (some z) (some (z + 584)) (some (z + 593)) (some (z + 594)) (nI i + nI 3) (t + 1) ρ) z (B + 20000) (c + 12) := fun ρ h => ⟨ht, kk ρ h⟩
  unfold w_L_law_b744 w_L_law_b2766
  exact ⟨ht, bk (K := (fun ρ => t ≤ 512 ∧ K (some z) (some (z + 584)) (some (z + 593)) (some (z + 594)) (nI i + nI 3) (t + 1) ρ)) (W10 := (fun G μ z Q => w_X10_nestCount G μ z Q)) (W11 := (fun G μ m Q => w_X11_nestCount G μ m Q)) (k_nestCount (v := v) ) hT hI hR hM hMr hV hJ kk2⟩
theorem l_16 (hk : Tn L K z i t B c) (hO : Ok μ z B c) : w_L_law_b1180 G o L xs K (some z) (some (z + 584)) (some (z + 593)) (some (z + 594)) (nI i) t μ := by
  obtain ⟨ht, v1, v2, hb, hc, kk⟩ := hk
  obtain ⟨hT, v, ct, V, R, ⟨hI, hR⟩, ⟨hM, hMr⟩, hV, hJ⟩ := hO
  have hj := hV.1.1
  have l := hj.1.1
  have kk2 : Kk (fun ρ => t ≤ 512 ∧ K (some z) (some (z + 584)) (some (z + 593)) (some (z + 594)) (nI i + nI 3) (t + 1) ρ) z (B + 20000) (c + 12) := fun ρ h => ⟨ht, kk ρ h⟩
  unfold w_L_law_b1180 w_L_law_b2766
  exact ⟨ht, bk (K := (fun ρ => t ≤ 512 ∧ K (some z) (some (z + 584)) (some (z + 593)) (some (z + 594)) (nI i + nI 3) (t + 1) ρ)) (W10 := (fun G μ z Q => w_X10_crowCount G μ z Q)) (W11 := (fun G μ m Q => w_X11_crowCount G μ m Q)) (k_crowCount (v := v) ) hT hI hR hM hMr hV hJ kk2⟩
theorem l_20 (hk : Tn L K z i t B c) (hO : Ok μ z B c) : w_L_law_b1368 G o L xs K (some z) (some (z + 584)) (some (z + 593)) (some (z + 594)) (nI i) t μ := by
  obtain ⟨ht, v1, v2, hb, hc, kk⟩ := hk
  obtain ⟨hT, v, ct, V, R, ⟨hI, hR⟩, ⟨hM, hMr⟩, hV, hJ⟩ := hO
  have hj := hV.1.1
  have l := hj.1.1
  have kk2 : Kk (fun ρ => t ≤ 512 ∧ K (some z) (some (z + 584)) (some (z + 593)) (some (z + 594)) (nI i + nI 3) (t + 1) ρ) z (B + 20000) (c + 12) := fun ρ h => ⟨ht, kk ρ h⟩
  unfold w_L_law_b1368 w_L_law_b2766
  exact ⟨ht, bk (K := (fun ρ => t ≤ 512 ∧ K (some z) (some (z + 584)) (some (z + 593)) (some (z + 594)) (nI i + nI 3) (t + 1) ρ)) (W10 := (fun G μ z Q => w_X10_messageCount G μ z Q)) (W11 := (fun G μ m Q => w_X11_messageCount G μ m Q)) (k_messageCount (v := v) ) hT hI hR hM hMr hV hJ kk2⟩
theorem l_32 (hk : Tn L K z i t B c) (hO : Ok μ z B c) : w_L_law_b2002 G o L xs K (some z) (some (z + 584)) (some (z + 593)) (some (z + 594)) (nI i) t μ := by
  obtain ⟨ht, v1, v2, hb, hc, kk⟩ := hk
  obtain ⟨hT, v, ct, V, R, ⟨hI, hR⟩, ⟨hM, hMr⟩, hV, hJ⟩ := hO
  have hj := hV.1.1
  have l := hj.1.1
  have kk2 : Kk (fun ρ => t ≤ 512 ∧ K (some z) (some (z + 584)) (some (z + 593)) (some (z + 594)) (nI i + nI 3) (t + 1) ρ) z (B + 20000) (c + 12) := fun ρ h => ⟨ht, kk ρ h⟩
  unfold w_L_law_b2002 w_L_law_b2766
  exact ⟨ht, bk (K := (fun ρ => t ≤ 512 ∧ K (some z) (some (z + 584)) (some (z + 593)) (some (z + 594)) (nI i + nI 3) (t + 1) ρ)) (W10 := (fun G μ z Q => w_X10_time G μ z Q)) (W11 := (fun G μ m Q => w_X11_time G μ m Q)) (k_time (v := v) ) hT hI hR hM hMr hV hJ kk2⟩
theorem l_33 (hk : Tn L K z i t B c) (hO : Ok μ z B c) : w_L_law_b2015 G o L xs K (some z) (some (z + 584)) (some (z + 593)) (some (z + 594)) (nI i) t μ := by
  obtain ⟨ht, v1, v2, hb, hc, kk⟩ := hk
  obtain ⟨hT, v, ct, V, R, ⟨hI, hR⟩, ⟨hM, hMr⟩, hV, hJ⟩ := hO
  have hj := hV.1.1
  have l := hj.1.1
  have kk2 : Kk (fun ρ => t ≤ 512 ∧ K (some z) (some (z + 584)) (some (z + 593)) (some (z + 594)) (nI i + nI 3) (t + 1) ρ) z (B + 20000) (c + 12) := fun ρ h => ⟨ht, kk ρ h⟩
  unfold w_L_law_b2015 w_L_law_b2766
  exact ⟨ht, bk (K := (fun ρ => t ≤ 512 ∧ K (some z) (some (z + 584)) (some (z + 593)) (some (z + 594)) (nI i + nI 3) (t + 1) ρ)) (W10 := (fun G μ z Q => w_X10_wind G μ z Q)) (W11 := (fun G μ m Q => w_X11_wind G μ m Q)) (k_wind (v := v) ) hT hI hR hM hMr hV hJ kk2⟩
theorem l_34 (hk : Tn L K z i t B c) (hO : Ok μ z B c) : w_L_law_b2028 G o L xs K (some z) (some (z + 584)) (some (z + 593)) (some (z + 594)) (nI i) t μ := by
  obtain ⟨ht, v1, v2, hb, hc, kk⟩ := hk
  obtain ⟨hT, v, ct, V, R, ⟨hI, hR⟩, ⟨hM, hMr⟩, hV, hJ⟩ := hO
  have hj := hV.1.1
  have l := hj.1.1
  have kk2 : Kk (fun ρ => t ≤ 512 ∧ K (some z) (some (z + 584)) (some (z + 593)) (some (z + 594)) (nI i + nI 3) (t + 1) ρ) z (B + 20000) (c + 12) := fun ρ h => ⟨ht, kk ρ h⟩
  unfold w_L_law_b2028 w_L_law_b2766
  exact ⟨ht, bk (K := (fun ρ => t ≤ 512 ∧ K (some z) (some (z + 584)) (some (z + 593)) (some (z + 594)) (nI i + nI 3) (t + 1) ρ)) (W10 := (fun G μ z Q => w_X10_publishedTotal G μ z Q)) (W11 := (fun G μ m Q => w_X11_publishedTotal G μ m Q)) (k_publishedTotal (v := v) ) hT hI hR hM hMr hV hJ kk2⟩
theorem l_35 (hk : Tn L K z i t B c) (hO : Ok μ z B c) : w_L_law_b2041 G o L xs K (some z) (some (z + 584)) (some (z + 593)) (some (z + 594)) (nI i) t μ := by
  obtain ⟨ht, v1, v2, hb, hc, kk⟩ := hk
  obtain ⟨hT, v, ct, V, R, ⟨hI, hR⟩, ⟨hM, hMr⟩, hV, hJ⟩ := hO
  have hj := hV.1.1
  have l := hj.1.1
  have kk2 : Kk (fun ρ => t ≤ 512 ∧ K (some z) (some (z + 584)) (some (z + 593)) (some (z + 594)) (nI i + nI 3) (t + 1) ρ) z (B + 20000) (c + 12) := fun ρ h => ⟨ht, kk ρ h⟩
  unfold w_L_law_b2041 w_L_law_b2766
  exact ⟨ht, bk (K := (fun ρ => t ≤ 512 ∧ K (some z) (some (z + 584)) (some (z + 593)) (some (z + 594)) (nI i + nI 3) (t + 1) ρ)) (W10 := (fun G μ z Q => w_X10_deliveredTotal G μ z Q)) (W11 := (fun G μ m Q => w_X11_deliveredTotal G μ m Q)) (k_deliveredTotal (v := v) ) hT hI hR hM hMr hV hJ kk2⟩
theorem l_36 (hk : Tn L K z i t B c) (hO : Ok μ z B c) : w_L_law_b2054 G o L xs K (some z) (some (z + 584)) (some (z + 593)) (some (z + 594)) (nI i) t μ := by
  obtain ⟨ht, v1, v2, hb, hc, kk⟩ := hk
  obtain ⟨hT, v, ct, V, R, ⟨hI, hR⟩, ⟨hM, hMr⟩, hV, hJ⟩ := hO
  have hj := hV.1.1
  have l := hj.1.1
  have kk2 : Kk (fun ρ => t ≤ 512 ∧ K (some z) (some (z + 584)) (some (z + 593)) (some (z + 594)) (nI i + nI 3) (t + 1) ρ) z (B + 20000) (c + 12) := fun ρ h => ⟨ht, kk ρ h⟩
  unfold w_L_law_b2054 w_L_law_b2766
  exact ⟨ht, bk (K := (fun ρ => t ≤ 512 ∧ K (some z) (some (z + 584)) (some (z + 593)) (some (z + 594)) (nI i + nI 3) (t + 1) ρ)) (W10 := (fun G μ z Q => w_X10_readTotal G μ z Q)) (W11 := (fun G μ m Q => w_X11_readTotal G μ m Q)) (k_readTotal (v := v) ) hT hI hR hM hMr hV hJ kk2⟩
theorem l_37 (hk : Tn L K z i t B c) (hO : Ok μ z B c) : w_L_law_b2067 G o L xs K (some z) (some (z + 584)) (some (z + 593)) (some (z + 594)) (nI i) t μ := by
  obtain ⟨ht, v1, v2, hb, hc, kk⟩ := hk
  obtain ⟨hT, v, ct, V, R, ⟨hI, hR⟩, ⟨hM, hMr⟩, hV, hJ⟩ := hO
  have hj := hV.1.1
  have l := hj.1.1
  have kk2 : Kk (fun ρ => t ≤ 512 ∧ K (some z) (some (z + 584)) (some (z + 593)) (some (z + 594)) (nI i + nI 3) (t + 1) ρ) z (B + 20000) (c + 12) := fun ρ h => ⟨ht, kk ρ h⟩
  unfold w_L_law_b2067 w_L_law_b2766
  exact ⟨ht, bk (K := (fun ρ => t ≤ 512 ∧ K (some z) (some (z + 584)) (some (z + 593)) (some (z + 594)) (nI i + nI 3) (t + 1) ρ)) (W10 := (fun G μ z Q => w_X10_duplicateTotal G μ z Q)) (W11 := (fun G μ m Q => w_X11_duplicateTotal G μ m Q)) (k_duplicateTotal (v := v) ) hT hI hR hM hMr hV hJ kk2⟩
theorem l_38 (hk : Tn L K z i t B c) (hO : Ok μ z B c) : w_L_law_b2080 G o L xs K (some z) (some (z + 584)) (some (z + 593)) (some (z + 594)) (nI i) t μ := by
  obtain ⟨ht, v1, v2, hb, hc, kk⟩ := hk
  obtain ⟨hT, v, ct, V, R, ⟨hI, hR⟩, ⟨hM, hMr⟩, hV, hJ⟩ := hO
  have hj := hV.1.1
  have l := hj.1.1
  have kk2 : Kk (fun ρ => t ≤ 512 ∧ K (some z) (some (z + 584)) (some (z + 593)) (some (z + 594)) (nI i + nI 3) (t + 1) ρ) z (B + 20000) (c + 12) := fun ρ h => ⟨ht, kk ρ h⟩
  unfold w_L_law_b2080 w_L_law_b2766
  exact ⟨ht, bk (K := (fun ρ => t ≤ 512 ∧ K (some z) (some (z + 584)) (some (z + 593)) (some (z + 594)) (nI i + nI 3) (t + 1) ρ)) (W10 := (fun G μ z Q => w_X10_failedTotal G μ z Q)) (W11 := (fun G μ m Q => w_X11_failedTotal G μ m Q)) (k_failedTotal (v := v) ) hT hI hR hM hMr hV hJ kk2⟩
theorem l_39 (hk : Tn L K z i t B c) (hO : Ok μ z B c) : w_L_law_b2093 G o L xs K (some z) (some (z + 584)) (some (z + 593)) (some (z + 594)) (nI i) t μ := by
  obtain ⟨ht, v1, v2, hb, hc, kk⟩ := hk
  obtain ⟨hT, v, ct, V, R, ⟨hI, hR⟩, ⟨hM, hMr⟩, hV, hJ⟩ := hO
  have hj := hV.1.1
  have l := hj.1.1
  have kk2 : Kk (fun ρ => t ≤ 512 ∧ K (some z) (some (z + 584)) (some (z + 593)) (some (z + 594)) (nI i + nI 3) (t + 1) ρ) z (B + 20000) (c + 12) := fun ρ h => ⟨ht, kk ρ h⟩
  unfold w_L_law_b2093 w_L_law_b2766
  exact ⟨ht, bk (K := (fun ρ => t ≤ 512 ∧ K (some z) (some (z + 584)) (some (z + 593)) (some (z + 594)) (nI i + nI 3) (t + 1) ρ)) (W10 := (fun G μ z Q => w_X10_arrivalTotal G μ z Q)) (W11 := (fun G μ m Q => w_X11_arrivalTotal G μ m Q)) (k_arrivalTotal (v := v) ) hT hI hR hM hMr hV hJ kk2⟩
theorem l_40 (hk : Tn L K z i t B c) (hO : Ok μ z B c) : w_L_law_b2106 G o L xs K (some z) (some (z + 584)) (some (z + 593)) (some (z + 594)) (nI i) t μ := by
  obtain ⟨ht, v1, v2, hb, hc, kk⟩ := hk
  obtain ⟨hT, v, ct, V, R, ⟨hI, hR⟩, ⟨hM, hMr⟩, hV, hJ⟩ := hO
  have hj := hV.1.1
  have l := hj.1.1
  have kk2 : Kk (fun ρ => t ≤ 512 ∧ K (some z) (some (z + 584)) (some (z + 593)) (some (z + 594)) (nI i + nI 3) (t + 1) ρ) z (B + 20000) (c + 12) := fun ρ h => ⟨ht, kk ρ h⟩
  unfold w_L_law_b2106 w_L_law_b2766
  exact ⟨ht, bk (K := (fun ρ => t ≤ 512 ∧ K (some z) (some (z + 584)) (some (z + 593)) (some (z + 594)) (nI i + nI 3) (t + 1) ρ)) (W10 := (fun G μ z Q => w_X10_messageCountByTotals G μ z Q)) (W11 := (fun G μ m Q => w_X11_messageCountByTotals G μ m Q)) (k_messageCountByTotals hj) hT hI hR hM hMr hV hJ kk2⟩
theorem l_45 (hk : Tn L K z i t B c) (hO : Ok μ z B c) : w_L_law_b2337 G o L xs K (some z) (some (z + 584)) (some (z + 593)) (some (z + 594)) (nI i) t μ := by
  obtain ⟨ht, v1, v2, hb, hc, kk⟩ := hk
  obtain ⟨hT, v, ct, V, R, ⟨hI, hR⟩, ⟨hM, hMr⟩, hV, hJ⟩ := hO
  have hj := hV.1.1
  have l := hj.1.1
  have kk2 : Kk (fun ρ => t ≤ 512 ∧ K (some z) (some (z + 584)) (some (z + 593)) (some (z + 594)) (nI i + nI 3) (t + 1) ρ) z (B + 20000) (c + 12) := fun ρ h => ⟨ht, kk ρ h⟩
  unfold w_L_law_b2337 w_L_law_b2766
  exact ⟨ht, bk (K := (fun ρ => t ≤ 512 ∧ K (some z) (some (z + 584)) (some (z + 593)) (some (z + 594)) (nI i + nI 3) (t + 1) ρ)) (W10 := (fun G μ z Q => w_X10_isConsistent G μ z Q)) (W11 := (fun G μ m Q => w_X11_isConsistent G μ m Q)) (k_isConsistent hj (by omega)) hT hI hR hM hMr hV hJ kk2⟩
end TURNS2

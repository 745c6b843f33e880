/-! THE LAW: CHANGES -/
def Tn (L : Nat) (K : Option Nat → Option Nat → Option Nat → Option Nat → Int32 → Nat → mmT → Prop) (z i t B c : Nat) : Prop := t ≤ 512 ∧ vp_in (nI i + nI 1) L ∧ vp_in (nI i + nI 2) L ∧ Bo B ∧ c ≤ 6200 ∧ Kk (fun ρ => K (some z) (some (z + 584)) (some (z + 593)) (some (z + 594)) (nI i + nI 3) (t + 1) ρ) z (B + 20000) (c + 12)
section TURNS1
variable {G : mgT} {μ : mmT} {o L z i t B c : Nat} {xs : Nat → Int32} {K : Option Nat → Option Nat → Option Nat → Option Nat → Int32 → Nat → mmT → Prop}
theorem l_0 (hk : Tn L K z i t B c) (hO : Ok μ z B c) : w_L_law_b284 G o L xs K (some z) (some (z + 584)) (some (z + 593)) (some (z + 594)) (nI i) t μ := by
  obtain ⟨ht, v1, v2, hb, hc, kk⟩ := hk
  obtain ⟨hT, v, ct, V, R, ⟨hI, hR⟩, ⟨hM, hMr⟩, hV, hJ⟩ := hO
  have hj := hV.1.1
  have l := hj.1.1
  have kk2 : Kk (fun ρ => t ≤ 512 ∧ (t ≤ 512 ∧ K (some z) (some (z + 584)) (some (z + 593)) (some (z + 594)) (nI i + nI 3) (t + 1) ρ)) z (B + 20000) (c + 12) := fun ρ h => ⟨ht, ht, kk ρ h⟩
  have hp := p_open (z1 := (xs (nI i + nI 1).toNatClampNeg)) (z2 := (xs (nI i + nI 2).toNatClampNeg)) hV.1 hb
  unfold w_L_law_b284 w_L_law_b349 w_L_law_b2766 w_L_addNest w_X10_addNest
  refine ⟨ht, v1, v2, z, rfl, hT.kz, ?_⟩
  rcases hp with ⟨r, w, hr, hw, h8, h11⟩ | ⟨q, hq, h8, h11⟩
  · exact t_opD (W := (fun G μ a Q => w_X8_openNest G μ a (xs (nI i + nI 1).toNatClampNeg) (xs (nI i + nI 2).toNatClampNeg) Q)) hr h8 hT hI l (fun ρ g i1 => ⟨z + 593, rfl, (hT.ag g).l.1, lvp (hT.ag g), v1, v2, bcD (K := (fun ρ => t ≤ 512 ∧ (t ≤ 512 ∧ K (some z) (some (z + 584)) (some (z + 593)) (some (z + 594)) (nI i + nI 3) (t + 1) ρ))) (W := (fun G μ m Q => w_X11_builds G μ m (xs (nI i + nI 1).toNatClampNeg) (xs (nI i + nI 2).toNatClampNeg) Q)) h11 hT hR hMr hM hV hJ hw kk2 g i1⟩)
  · rcases List.mem_cons.mp hq with rfl | hq
    · exact t_opF (W := (fun G μ a Q => w_X8_openNest G μ a (xs (nI i + nI 1).toNatClampNeg) (xs (nI i + nI 2).toNatClampNeg) Q)) (fun ρ h => t_settle_1 h) h8 hT hI l (fun ρ g i1 => Or.inl ⟨rfl, v1, v2, bcF (K := (fun ρ => t ≤ 512 ∧ (t ≤ 512 ∧ K (some z) (some (z + 584)) (some (z + 593)) (some (z + 594)) (nI i + nI 3) (t + 1) ρ))) (W := (fun G μ m Q => w_X11_builds G μ m (xs (nI i + nI 1).toNatClampNeg) (xs (nI i + nI 2).toNatClampNeg) Q)) ⟨by decide, by decide⟩ h11 hT hR hMr hM hV hJ kk2 g i1⟩)
    · obtain rfl := List.mem_singleton.mp hq
      exact t_opF (W := (fun G μ a Q => w_X8_openNest G μ a (xs (nI i + nI 1).toNatClampNeg) (xs (nI i + nI 2).toNatClampNeg) Q)) (fun ρ h => t_settle_2 h) h8 hT hI l (fun ρ g i1 => Or.inr ⟨rfl, v1, v2, bcF (K := (fun ρ => t ≤ 512 ∧ (t ≤ 512 ∧ K (some z) (some (z + 584)) (some (z + 593)) (some (z + 594)) (nI i + nI 3) (t + 1) ρ))) (W := (fun G μ m Q => w_X11_builds G μ m (xs (nI i + nI 1).toNatClampNeg) (xs (nI i + nI 2).toNatClampNeg) Q)) ⟨by decide, by decide⟩ h11 hT hR hMr hM hV hJ kk2 g i1⟩)
theorem l_1 (hk : Tn L K z i t B c) (hO : Ok μ z B c) : w_L_law_b352 G o L xs K (some z) (some (z + 584)) (some (z + 593)) (some (z + 594)) (nI i) t μ := by
  obtain ⟨ht, v1, v2, hb, hc, kk⟩ := hk
  obtain ⟨hT, v, ct, V, R, ⟨hI, hR⟩, ⟨hM, hMr⟩, hV, hJ⟩ := hO
  have hj := hV.1.1
  have l := hj.1.1
  have kk2 : Kk (fun ρ => t ≤ 512 ∧ (t ≤ 512 ∧ K (some z) (some (z + 584)) (some (z + 593)) (some (z + 594)) (nI i + nI 3) (t + 1) ρ)) z (B + 20000) (c + 12) := fun ρ h => ⟨ht, ht, kk ρ h⟩
  have hp := p_hire hV.1 hb
  unfold w_L_law_b352 w_L_law_b393 w_L_law_b2766 w_L_addCrow w_X10_addCrow
  refine ⟨ht, z, rfl, hT.kz, ?_⟩
  rcases hp with ⟨r, w, hr, hw, h8, h11⟩ | ⟨q, hq, h8, h11⟩
  · exact t_opD (W := (fun G μ a Q => w_X8_hireCrow G μ a Q)) hr h8 hT hI l (fun ρ g i1 => ⟨z + 593, rfl, (hT.ag g).l.1, lvp (hT.ag g), bcD (K := (fun ρ => t ≤ 512 ∧ (t ≤ 512 ∧ K (some z) (some (z + 584)) (some (z + 593)) (some (z + 594)) (nI i + nI 3) (t + 1) ρ))) (W := (fun G μ m Q => w_X11_hires G μ m Q)) h11 hT hR hMr hM hV hJ hw kk2 g i1⟩)
  · obtain rfl := List.mem_singleton.mp hq
    exact t_opF (W := (fun G μ a Q => w_X8_hireCrow G μ a Q)) (fun ρ h => t_settle_2 h) h8 hT hI l (fun ρ g i1 => ⟨rfl, bcF (K := (fun ρ => t ≤ 512 ∧ (t ≤ 512 ∧ K (some z) (some (z + 584)) (some (z + 593)) (some (z + 594)) (nI i + nI 3) (t + 1) ρ))) (W := (fun G μ m Q => w_X11_hires G μ m Q)) ⟨by decide, by decide⟩ h11 hT hR hMr hM hV hJ kk2 g i1⟩)
theorem l_2 (hk : Tn L K z i t B c) (hO : Ok μ z B c) : w_L_law_b396 G o L xs K (some z) (some (z + 584)) (some (z + 593)) (some (z + 594)) (nI i) t μ := by
  obtain ⟨ht, v1, v2, hb, hc, kk⟩ := hk
  obtain ⟨hT, v, ct, V, R, ⟨hI, hR⟩, ⟨hM, hMr⟩, hV, hJ⟩ := hO
  have hj := hV.1.1
  have l := hj.1.1
  have kk2 : Kk (fun ρ => t ≤ 512 ∧ (t ≤ 512 ∧ K (some z) (some (z + 584)) (some (z + 593)) (some (z + 594)) (nI i + nI 3) (t + 1) ρ)) z (B + 20000) (c + 12) := fun ρ h => ⟨ht, ht, kk ρ h⟩
  have hp := p_post (z1 := (xs (nI i + nI 1).toNatClampNeg)) (z2 := (xs (nI i + nI 2).toNatClampNeg)) hV.1 hb
  unfold w_L_law_b396 w_L_law_b461 w_L_law_b2766 w_L_publish w_X10_publish
  refine ⟨ht, v1, v2, z, rfl, hT.kz, ?_⟩
  rcases hp with ⟨r, w, hr, hw, h8, h11⟩ | ⟨q, hq, h8, h11⟩
  · exact t_opD (W := (fun G μ a Q => w_X8_post G μ a (xs (nI i + nI 1).toNatClampNeg) (xs (nI i + nI 2).toNatClampNeg) Q)) hr h8 hT hI l (fun ρ g i1 => ⟨z + 593, rfl, (hT.ag g).l.1, lvp (hT.ag g), v1, v2, bcD (K := (fun ρ => t ≤ 512 ∧ (t ≤ 512 ∧ K (some z) (some (z + 584)) (some (z + 593)) (some (z + 594)) (nI i + nI 3) (t + 1) ρ))) (W := (fun G μ m Q => w_X11_publishes G μ m (xs (nI i + nI 1).toNatClampNeg) (xs (nI i + nI 2).toNatClampNeg) Q)) h11 hT hR hMr hM hV hJ hw kk2 g i1⟩)
  · rcases List.mem_cons.mp hq with rfl | hq
    · exact t_opF (W := (fun G μ a Q => w_X8_post G μ a (xs (nI i + nI 1).toNatClampNeg) (xs (nI i + nI 2).toNatClampNeg) Q)) (fun ρ h => t_settle_3 h) h8 hT hI l (fun ρ g i1 => Or.inl ⟨rfl, v1, v2, bcF (K := (fun ρ => t ≤ 512 ∧ (t ≤ 512 ∧ K (some z) (some (z + 584)) (some (z + 593)) (some (z + 594)) (nI i + nI 3) (t + 1) ρ))) (W := (fun G μ m Q => w_X11_publishes G μ m (xs (nI i + nI 1).toNatClampNeg) (xs (nI i + nI 2).toNatClampNeg) Q)) ⟨by decide, by decide⟩ h11 hT hR hMr hM hV hJ kk2 g i1⟩)
    · rcases List.mem_cons.mp hq with rfl | hq
      · exact t_opF (W := (fun G μ a Q => w_X8_post G μ a (xs (nI i + nI 1).toNatClampNeg) (xs (nI i + nI 2).toNatClampNeg) Q)) (fun ρ h => t_settle_1 h) h8 hT hI l (fun ρ g i1 => Or.inr (Or.inl ⟨rfl, v1, v2, bcF (K := (fun ρ => t ≤ 512 ∧ (t ≤ 512 ∧ K (some z) (some (z + 584)) (some (z + 593)) (some (z + 594)) (nI i + nI 3) (t + 1) ρ))) (W := (fun G μ m Q => w_X11_publishes G μ m (xs (nI i + nI 1).toNatClampNeg) (xs (nI i + nI 2).toNatClampNeg) Q)) ⟨by decide, by decide⟩ h11 hT hR hMr hM hV hJ kk2 g i1⟩))
      · obtain rfl := List.mem_singleton.mp hq
        exact t_opF (W := (fun G μ a Q => w_X8_post G μ a (xs (nI i + nI 1).toNatClampNeg) (xs (nI i + nI 2).toNatClampNeg) Q)) (fun ρ h => t_settle_2 h) h8 hT hI l (fun ρ g i1 => Or.inr (Or.inr ⟨rfl, v1, v2, bcF (K := (fun ρ => t ≤ 512 ∧ (t ≤ 512 ∧ K (some z) (some (z + 584)) (some (z + 593)) (some (z + 594)) (nI i + nI 3) (t + 1) ρ))) (W := (fun G μ m Q => w_X11_publishes G μ m (xs (nI i + nI 1).toNatClampNeg) (xs (nI i + nI 2).toNatClampNeg) Q)) ⟨by decide, by decide⟩ h11 hT hR hMr hM hV hJ kk2 g i1⟩))
theorem l_3 (hk : Tn L K z i t B c) (hO : Ok μ z B c) : w_L_law_b464 G o L xs K (some z) (some (z + 584)) (some (z + 593)) (some (z + 594)) (nI i) t μ := by
  obtain ⟨ht, v1, v2, hb, hc, kk⟩ := hk
  obtain ⟨hT, v, ct, V, R, ⟨hI, hR⟩, ⟨hM, hMr⟩, hV, hJ⟩ := hO
  have hj := hV.1.1
  have l := hj.1.1
  have kk2 : Kk (fun ρ => t ≤ 512 ∧ (t ≤ 512 ∧ K (some z) (some (z + 584)) (some (z + 593)) (some (z + 594)) (nI i + nI 3) (t + 1) ρ)) z (B + 20000) (c + 12) := fun ρ h => ⟨ht, ht, kk ρ h⟩
  have hp := p_read (x := (xs (nI i + nI 1).toNatClampNeg)) hV.1 hb
  unfold w_L_law_b464 w_L_law_b517 w_L_law_b2766 w_L_read w_X10_read
  refine ⟨ht, v1, z, rfl, hT.kz, ?_⟩
  rcases hp with ⟨r, w, hr, hw, h8, h11⟩ | ⟨q, hq, h8, h11⟩
  · exact t_opD (W := (fun G μ a Q => w_X8_handOver G μ a (xs (nI i + nI 1).toNatClampNeg) Q)) hr h8 hT hI l (fun ρ g i1 => ⟨z + 593, rfl, (hT.ag g).l.1, lvp (hT.ag g), v1, bcD (K := (fun ρ => t ≤ 512 ∧ (t ≤ 512 ∧ K (some z) (some (z + 584)) (some (z + 593)) (some (z + 594)) (nI i + nI 3) (t + 1) ρ))) (W := (fun G μ m Q => w_X11_reads G μ m (xs (nI i + nI 1).toNatClampNeg) Q)) h11 hT hR hMr hM hV hJ hw kk2 g i1⟩)
  · rcases List.mem_cons.mp hq with rfl | hq
    · exact t_opF (W := (fun G μ a Q => w_X8_handOver G μ a (xs (nI i + nI 1).toNatClampNeg) Q)) (fun ρ h => t_settle_3 h) h8 hT hI l (fun ρ g i1 => Or.inl ⟨rfl, v1, bcF (K := (fun ρ => t ≤ 512 ∧ (t ≤ 512 ∧ K (some z) (some (z + 584)) (some (z + 593)) (some (z + 594)) (nI i + nI 3) (t + 1) ρ))) (W := (fun G μ m Q => w_X11_reads G μ m (xs (nI i + nI 1).toNatClampNeg) Q)) ⟨by decide, by decide⟩ h11 hT hR hMr hM hV hJ kk2 g i1⟩)
    · obtain rfl := List.mem_singleton.mp hq
      exact t_opF (W := (fun G μ a Q => w_X8_handOver G μ a (xs (nI i + nI 1).toNatClampNeg) Q)) (fun ρ h => t_settle_4 h) h8 hT hI l (fun ρ g i1 => Or.inr ⟨rfl, v1, bcF (K := (fun ρ => t ≤ 512 ∧ (t ≤ 512 ∧ K (some z) (some (z + 584)) (some (z + 593)) (some (z + 594)) (nI i + nI 3) (t + 1) ρ))) (W := (fun G μ m Q => w_X11_reads G μ m (xs (nI i + nI 1).toNatClampNeg) Q)) ⟨by decide, by decide⟩ h11 hT hR hMr hM hV hJ kk2 g i1⟩)
theorem l_4 (hk : Tn L K z i t B c) (hO : Ok μ z B c) : w_L_law_b520 G o L xs K (some z) (some (z + 584)) (some (z + 593)) (some (z + 594)) (nI i) t μ := by
  obtain ⟨ht, v1, v2, hb, hc, kk⟩ := hk
  obtain ⟨hT, v, ct, V, R, ⟨hI, hR⟩, ⟨hM, hMr⟩, hV, hJ⟩ := hO
  have hj := hV.1.1
  have l := hj.1.1
  have kk2 : Kk (fun ρ => t ≤ 512 ∧ (t ≤ 512 ∧ K (some z) (some (z + 584)) (some (z + 593)) (some (z + 594)) (nI i + nI 3) (t + 1) ρ)) z (B + 20000) (c + 12) := fun ρ h => ⟨ht, ht, kk ρ h⟩
  have hp := p_cancel (x := (xs (nI i + nI 1).toNatClampNeg)) hV.1 hb
  unfold w_L_law_b520 w_L_law_b573 w_L_law_b2766 w_L_cancel w_X10_cancel
  refine ⟨ht, v1, z, rfl, hT.kz, ?_⟩
  rcases hp with ⟨r, w, hr, hw, h8, h11⟩ | ⟨q, hq, h8, h11⟩
  · exact t_opD (W := (fun G μ a Q => w_X8_withdraw G μ a (xs (nI i + nI 1).toNatClampNeg) Q)) hr h8 hT hI l (fun ρ g i1 => ⟨z + 593, rfl, (hT.ag g).l.1, lvp (hT.ag g), v1, bcD (K := (fun ρ => t ≤ 512 ∧ (t ≤ 512 ∧ K (some z) (some (z + 584)) (some (z + 593)) (some (z + 594)) (nI i + nI 3) (t + 1) ρ))) (W := (fun G μ m Q => w_X11_cancels G μ m (xs (nI i + nI 1).toNatClampNeg) Q)) h11 hT hR hMr hM hV hJ hw kk2 g i1⟩)
  · rcases List.mem_cons.mp hq with rfl | hq
    · exact t_opF (W := (fun G μ a Q => w_X8_withdraw G μ a (xs (nI i + nI 1).toNatClampNeg) Q)) (fun ρ h => t_settle_4 h) h8 hT hI l (fun ρ g i1 => Or.inl ⟨rfl, v1, bcF (K := (fun ρ => t ≤ 512 ∧ (t ≤ 512 ∧ K (some z) (some (z + 584)) (some (z + 593)) (some (z + 594)) (nI i + nI 3) (t + 1) ρ))) (W := (fun G μ m Q => w_X11_cancels G μ m (xs (nI i + nI 1).toNatClampNeg) Q)) ⟨by decide, by decide⟩ h11 hT hR hMr hM hV hJ kk2 g i1⟩)
    · obtain rfl := List.mem_singleton.mp hq
      exact t_opF (W := (fun G μ a Q => w_X8_withdraw G μ a (xs (nI i + nI 1).toNatClampNeg) Q)) (fun ρ h => t_settle_2 h) h8 hT hI l (fun ρ g i1 => Or.inr ⟨rfl, v1, bcF (K := (fun ρ => t ≤ 512 ∧ (t ≤ 512 ∧ K (some z) (some (z + 584)) (some (z + 593)) (some (z + 594)) (nI i + nI 3) (t + 1) ρ))) (W := (fun G μ m Q => w_X11_cancels G μ m (xs (nI i + nI 1).toNatClampNeg) Q)) ⟨by decide, by decide⟩ h11 hT hR hMr hM hV hJ kk2 g i1⟩)
theorem l_5 (hk : Tn L K z i t B c) (hO : Ok μ z B c) : w_L_law_b576 G o L xs K (some z) (some (z + 584)) (some (z + 593)) (some (z + 594)) (nI i) t μ := by
  obtain ⟨ht, v1, v2, hb, hc, kk⟩ := hk
  obtain ⟨hT, v, ct, V, R, ⟨hI, hR⟩, ⟨hM, hMr⟩, hV, hJ⟩ := hO
  have hj := hV.1.1
  have l := hj.1.1
  have kk2 : Kk (fun ρ => t ≤ 512 ∧ (t ≤ 512 ∧ K (some z) (some (z + 584)) (some (z + 593)) (some (z + 594)) (nI i + nI 3) (t + 1) ρ)) z (B + 20000) (c + 12) := fun ρ h => ⟨ht, ht, kk ρ h⟩
  have hp := p_wind (x := (xs (nI i + nI 1).toNatClampNeg)) hV.1 hb
  unfold w_L_law_b576 w_L_law_b629 w_L_law_b2766 w_L_setWind w_X10_setWind
  refine ⟨ht, v1, z, rfl, hT.kz, ?_⟩
  rcases hp with ⟨r, w, hr, hw, h8, h11⟩ | ⟨q, hq, h8, h11⟩
  · exact t_opD (W := (fun G μ a Q => w_X8_turnWind G μ a (xs (nI i + nI 1).toNatClampNeg) Q)) hr h8 hT hI l (fun ρ g i1 => ⟨z + 593, rfl, (hT.ag g).l.1, lvp (hT.ag g), v1, bcD (K := (fun ρ => t ≤ 512 ∧ (t ≤ 512 ∧ K (some z) (some (z + 584)) (some (z + 593)) (some (z + 594)) (nI i + nI 3) (t + 1) ρ))) (W := (fun G μ m Q => w_X11_blows G μ m (xs (nI i + nI 1).toNatClampNeg) Q)) h11 hT hR hMr hM hV hJ hw kk2 g i1⟩)
  · obtain rfl := List.mem_singleton.mp hq
    exact t_opF (W := (fun G μ a Q => w_X8_turnWind G μ a (xs (nI i + nI 1).toNatClampNeg) Q)) (fun ρ h => t_settle_1 h) h8 hT hI l (fun ρ g i1 => ⟨rfl, v1, bcF (K := (fun ρ => t ≤ 512 ∧ (t ≤ 512 ∧ K (some z) (some (z + 584)) (some (z + 593)) (some (z + 594)) (nI i + nI 3) (t + 1) ρ))) (W := (fun G μ m Q => w_X11_blows G μ m (xs (nI i + nI 1).toNatClampNeg) Q)) ⟨by decide, by decide⟩ h11 hT hR hMr hM hV hJ kk2 g i1⟩)
theorem l_6 (hk : Tn L K z i t B c) (hO : Ok μ z B c) : w_L_law_b632 G o L xs K (some z) (some (z + 584)) (some (z + 593)) (some (z + 594)) (nI i) t μ := by
  obtain ⟨ht, v1, v2, hb, hc, kk⟩ := hk
  obtain ⟨hT, v, ct, V, R, ⟨hI, hR⟩, ⟨hM, hMr⟩, hV, hJ⟩ := hO
  have hj := hV.1.1
  have l := hj.1.1
  have kk2 : Kk (fun ρ => t ≤ 512 ∧ (t ≤ 512 ∧ K (some z) (some (z + 584)) (some (z + 593)) (some (z + 594)) (nI i + nI 3) (t + 1) ρ)) z (B + 20000) (c + 12) := fun ρ h => ⟨ht, ht, kk ρ h⟩
  have hp := p_forget (x := (xs (nI i + nI 1).toNatClampNeg)) hV.1 hb
  unfold w_L_law_b632 w_L_law_b685 w_L_law_b2766 w_L_forget w_X10_forget
  refine ⟨ht, v1, z, rfl, hT.kz, ?_⟩
  rcases hp with ⟨r, w, hr, hw, h8, h11⟩ | ⟨q, hq, h8, h11⟩
  · exact t_opD (W := (fun G μ a Q => w_X8_clearKeys G μ a (xs (nI i + nI 1).toNatClampNeg) Q)) hr h8 hT hI l (fun ρ g i1 => ⟨z + 593, rfl, (hT.ag g).l.1, lvp (hT.ag g), v1, bcD (K := (fun ρ => t ≤ 512 ∧ (t ≤ 512 ∧ K (some z) (some (z + 584)) (some (z + 593)) (some (z + 594)) (nI i + nI 3) (t + 1) ρ))) (W := (fun G μ m Q => w_X11_forgets G μ m (xs (nI i + nI 1).toNatClampNeg) Q)) h11 hT hR hMr hM hV hJ hw kk2 g i1⟩)
  · obtain rfl := List.mem_singleton.mp hq
    exact t_opF (W := (fun G μ a Q => w_X8_clearKeys G μ a (xs (nI i + nI 1).toNatClampNeg) Q)) (fun ρ h => t_settle_3 h) h8 hT hI l (fun ρ g i1 => ⟨rfl, v1, bcF (K := (fun ρ => t ≤ 512 ∧ (t ≤ 512 ∧ K (some z) (some (z + 584)) (some (z + 593)) (some (z + 594)) (nI i + nI 3) (t + 1) ρ))) (W := (fun G μ m Q => w_X11_forgets G μ m (xs (nI i + nI 1).toNatClampNeg) Q)) ⟨by decide, by decide⟩ h11 hT hR hMr hM hV hJ kk2 g i1⟩)
theorem l_7 (hk : Tn L K z i t B c) (hO : Ok μ z B c) : w_L_law_b688 G o L xs K (some z) (some (z + 584)) (some (z + 593)) (some (z + 594)) (nI i) t μ := by
  obtain ⟨ht, v1, v2, hb, hc, kk⟩ := hk
  obtain ⟨hT, v, ct, V, R, ⟨hI, hR⟩, ⟨hM, hMr⟩, hV, hJ⟩ := hO
  have hj := hV.1.1
  have l := hj.1.1
  have kk2 : Kk (fun ρ => t ≤ 512 ∧ (t ≤ 512 ∧ K (some z) (some (z + 584)) (some (z + 593)) (some (z + 594)) (nI i + nI 3) (t + 1) ρ)) z (B + 20000) (c + 12) := fun ρ h => ⟨ht, ht, kk ρ h⟩
  have hp := p_pass (x := (xs (nI i + nI 1).toNatClampNeg)) hV.1 hb
  unfold w_L_law_b688 w_L_law_b741 w_L_law_b2766 w_L_advance w_X10_advance
  refine ⟨ht, v1, z, rfl, hT.kz, ?_⟩
  rcases hp with ⟨r, w, hr, hw, h8, h11⟩ | ⟨q, hq, h8, h11⟩
  · exact t_opD (W := (fun G μ a Q => w_X8_pass G μ a (xs (nI i + nI 1).toNatClampNeg) Q)) hr h8 hT hI l (fun ρ g i1 => ⟨z + 593, rfl, (hT.ag g).l.1, lvp (hT.ag g), v1, bcD (K := (fun ρ => t ≤ 512 ∧ (t ≤ 512 ∧ K (some z) (some (z + 584)) (some (z + 593)) (some (z + 594)) (nI i + nI 3) (t + 1) ρ))) (W := (fun G μ m Q => w_X11_passes G μ m (xs (nI i + nI 1).toNatClampNeg) Q)) h11 hT hR hMr hM hV hJ hw kk2 g i1⟩)
  · obtain rfl := List.mem_singleton.mp hq
    exact t_opF (W := (fun G μ a Q => w_X8_pass G μ a (xs (nI i + nI 1).toNatClampNeg) Q)) (fun ρ h => t_settle_1 h) h8 hT hI l (fun ρ g i1 => ⟨rfl, v1, bcF (K := (fun ρ => t ≤ 512 ∧ (t ≤ 512 ∧ K (some z) (some (z + 584)) (some (z + 593)) (some (z + 594)) (nI i + nI 3) (t + 1) ρ))) (W := (fun G μ m Q => w_X11_passes G μ m (xs (nI i + nI 1).toNatClampNeg) Q)) ⟨by decide, by decide⟩ h11 hT hR hMr hM hV hJ kk2 g i1⟩)
end TURNS1

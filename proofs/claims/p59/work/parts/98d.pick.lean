/-! WHICH FORM COUNTS -/
section PICK
variable {G : mgT} {μ ν ρ σ μ0 : mmT} {z a b c m i j k F n o f g s : Nat} {X : Nat → Nat} {x y x2 y2 : Int32}
def fc (f : Nat) : Int32 := ([110, 99, 115, 114, 100, 119, 102, 119, 119] : List Int32).getD f 0
theorem fc_ok : ∀ j, j < 9 → fp j = fc j :: (fp j).tail ∧ ¬ (fc j = nI 35 ∨ fc j = nI 37) := by decide +kernel
theorem ne_all (hj : j < 9) (h : ch X F s ≠ fc j) : sT X F j s = s ∧ oK X F j s = false := st_ne (fc_ok j hj).1 (fc_ok j hj).2 h
theorem pick_1 (hF : F ≤ 60) (hs : s ≤ F) (hg : g < 9) (hp : pk X F s = g) (e : ch X F s = fc g) (hd : ∀ j, j < 9 → j ≠ g → fc g ≠ fc j) : Pick X F s := by
  have hb := sT_b (X := X) hg hs
  exact pick_g hF hs hg hp (fun j hj q => by rw [(ne_all hj (by rw [e]; exact hd j hj q)).1]; exact hb.1) (fun j hj q => (ne_all hj (by rw [e]; exact hd j hj q)).2)
theorem pick (hF : F ≤ 60) (hs : s ≤ F) : Pick X F s := by
  obtain ⟨p0, p1, p2, p3, p4, p5, p6, p7, p8⟩ := fps
  have hc5 : ¬ (nI 119 = nI 35 ∨ nI 119 = nI 37) := by decide
  have ha : ¬ (nI 97 = nI 35 ∨ nI 97 = nI 37) := by decide
  have hi : ¬ (nI 105 = nI 35 ∨ nI 105 = nI 37) := by decide
  by_cases c0 : ch X F s = nI 110
  · exact pick_1 hF hs (g := 0) (by decide) (by unfold pk; rw [if_pos c0]) c0 (by decide +kernel)
  by_cases c1 : ch X F s = nI 99
  · exact pick_1 hF hs (g := 1) (by decide) (by unfold pk; rw [if_neg c0, if_pos c1]) c1 (by decide +kernel)
  by_cases c2 : ch X F s = nI 115
  · exact pick_1 hF hs (g := 2) (by decide) (by unfold pk; rw [if_neg c0, if_neg c1, if_pos c2]) c2 (by decide +kernel)
  by_cases c3 : ch X F s = nI 114
  · exact pick_1 hF hs (g := 3) (by decide) (by unfold pk; rw [if_neg c0, if_neg c1, if_neg c2, if_pos c3]) c3 (by decide +kernel)
  by_cases c4 : ch X F s = nI 100
  · exact pick_1 hF hs (g := 4) (by decide) (by unfold pk; rw [if_neg c0, if_neg c1, if_neg c2, if_neg c3, if_pos c4]) c4 (by decide +kernel)
  by_cases c6 : ch X F s = nI 102
  · exact pick_1 hF hs (g := 6) (by decide) (by unfold pk; rw [if_neg c0, if_neg c1, if_neg c2, if_neg c3, if_neg c4, if_pos c6]) c6 (by decide +kernel)
  have ep : pk X F s = if ch X F s = nI 119 then (if ch X F (s + 1) = nI 97 then (if oK X F 7 s = true ∧ ch X F (sT X F 7 s) = nI 32 then 8 else 7) else 5) else 9 := by
    unfold pk; rw [if_neg c0, if_neg c1, if_neg c2, if_neg c3, if_neg c4, if_neg c6]
  by_cases c5 : ch X F s = nI 119
  · rw [if_pos c5] at ep
    have hs1 : s < F := Classical.byContradiction fun q => by
      rw [ch, if_neg q] at c5
      exact absurd c5 (by decide)
    have lo : ∀ j, j < 9 → j ≠ 5 → j ≠ 7 → j ≠ 8 → sT X F j s = s ∧ oK X F j s = false := fun j hj n5 n7 n8 => ne_all hj (by
      rw [c5]
      have : ∀ j, j < 9 → j ≠ 5 → j ≠ 7 → j ≠ 8 → nI 119 ≠ fc j := by decide +kernel
      exact this j hj n5 n7 n8)
    by_cases ca : ch X F (s + 1) = nI 97
    · rw [if_pos ca] at ep
      have hs2 : s + 1 < F := Classical.byContradiction fun q => by
        rw [ch, if_neg q] at ca
        exact absurd ca (by decide)
      have n5 := st_ne2 p5 hc5 hi c5 (by rw [ca]; decide)
      have l7 := st_eq2 p7 hc5 ha c5 ca (by decide) hs2
      have b7 := sT_b (X := X) (f := 7) (by decide) hs
      have b8 := sT_b (X := X) (f := 8) (by decide) hs
      have e8 : pm X F (fp 8) s 0 0 0 = if oK X F 7 s = true then pm X F [nI 32, nI 37] (sT X F 7 s) 0 0 0 else (sT X F 7 s, false, 0, 0) := by
        have : fp 8 = fp 7 ++ [nI 32, nI 37] := by decide +kernel
        rw [this]
        exact pm_app (fp 7) [nI 32, nI 37] s 0 0 0 (by decide +kernel)
      by_cases d : oK X F 7 s = true ∧ ch X F (sT X F 7 s) = nI 32
      · rw [if_pos d] at ep
        rw [if_pos d.1, pm_c, if_neg (by decide), if_pos d.2] at e8
        have h32 : sT X F 7 s < F := Classical.byContradiction fun q => by
          have := d.2
          rw [ch, if_neg q] at this
          exact absurd this (by decide)
        have l8 : sT X F 7 s + 1 ≤ sT X F 8 s := by
          unfold sT at e8 h32 ⊢
          rw [e8]
          exact (pm_b (X := X) [nI 37] _ 0 0 0 h32 (by decide)).1
        have e1 := (rr_g (X := X) (g := 8) b8.1 9 (fun j hj => by
          by_cases q5 : j = 5
          · subst q5; omega
          by_cases q7 : j = 7
          · subst q7; omega
          by_cases q8 : j = 8
          · subst q8; omega
          have := lo j hj q5 q7 q8; omega)).2 (by decide)
        have e2 : ee X F s 8 = some 7 := by
          have := ee_s (X := X) (F := F) (s := s) 7
          rw [if_pos d.1] at this
          exact this
        have e3 : ee X F s 9 = if oK X F 8 s = true then some 8 else ee X F s 8 := ee_s (X := X) (F := F) (s := s) 8
        unfold Pick stp okp
        rw [ep, e1]
        rw [if_neg (show ¬ 8 = 9 by decide), if_neg (show ¬ 8 = 9 by decide)]
        by_cases k8 : oK X F 8 s = true
        · rw [if_pos k8] at e3
          rw [eI_some e3, if_pos rfl, if_pos k8]
          exact ⟨rfl, rfl, fun _ => e3⟩
        · rw [if_neg k8, e2] at e3
          rw [eI_some e3, if_neg (fun q => by have := (nI_eq (by omega) (by omega)).mp q; omega), if_neg k8]
          exact ⟨rfl, rfl, fun q => absurd q k8⟩
      · rw [if_neg d] at ep
        have e8' : sT X F 8 s = sT X F 7 s ∧ oK X F 8 s = false := by
          by_cases k7 : oK X F 7 s = true
          · have nd : ¬ ch X F (sT X F 7 s) = nI 32 := fun q => d ⟨k7, q⟩
            rw [if_pos k7, pm_c, if_neg (by decide), if_neg nd] at e8
            exact ⟨congrArg (fun r => r.1) e8, congrArg (fun r => r.2.1) e8⟩
          · rw [if_neg k7] at e8
            exact ⟨congrArg (fun r => r.1) e8, congrArg (fun r => r.2.1) e8⟩
        refine pick_g hF hs (g := 7) (by decide) ep (fun j hj q => ?_) (fun j hj q => ?_)
        · by_cases q5 : j = 5
          · subst q5; omega
          by_cases q8 : j = 8
          · subst q8; omega
          have := lo j hj q5 q q8; omega
        · by_cases q5 : j = 5
          · subst q5; exact n5.2
          by_cases q8 : j = 8
          · subst q8; exact e8'.2
          exact (lo j hj q5 q q8).2
    · rw [if_neg ca] at ep
      have n7 := st_ne2 p7 hc5 ha c5 ca
      have n8 := st_ne2 p8 hc5 ha c5 ca
      have l5 : s + 1 ≤ sT X F 5 s := by
        unfold sT
        rw [p5, pm_c, if_neg hc5, if_pos c5]
        exact (pm_b (X := X) (nI 105 :: [110, 100, 32, 35]) (s + 1) 0 0 0 hs1 (by decide)).1
      refine pick_g hF hs (g := 5) (by decide) ep (fun j hj q => ?_) (fun j hj q => ?_)
      · by_cases q7 : j = 7
        · subst q7; omega
        by_cases q8 : j = 8
        · subst q8; omega
        have := lo j hj q q7 q8; omega
      · by_cases q7 : j = 7
        · subst q7; exact n7.2
        by_cases q8 : j = 8
        · subst q8; exact n8.2
        exact (lo j hj q q7 q8).2
  · rw [if_neg c5] at ep
    have al : ∀ j, j < 9 → sT X F j s = s ∧ oK X F j s = false := fun j hj => ne_all hj (by
      have h : ∀ j, j < 9 → fc j = nI 110 ∨ fc j = nI 99 ∨ fc j = nI 115 ∨ fc j = nI 114 ∨ fc j = nI 100 ∨ fc j = nI 102 ∨ fc j = nI 119 := by decide +kernel
      intro e
      rcases h j hj with q | q | q | q | q | q | q
      · exact c0 (e.trans q)
      · exact c1 (e.trans q)
      · exact c2 (e.trans q)
      · exact c3 (e.trans q)
      · exact c4 (e.trans q)
      · exact c6 (e.trans q)
      · exact c5 (e.trans q))
    have e0 := al 0 (by decide)
    have e1 := (rr_g (X := X) (F := F) (s := s) (g := 0) (by omega) 9 (fun j hj => by have := (al j hj).1; omega)).2 (by decide)
    have e2 := ee_g (X := X) (F := F) (s := s) (g := 0) 9 (fun j hj _ => (al j hj).2)
    rw [if_neg (fun q => by rw [e0.2] at q; exact absurd q.2 (by decide))] at e2
    unfold Pick stp okp
    rw [ep, e1, eI_none e2, e0.1]
    rw [if_pos rfl, if_pos rfl, if_neg (fun q => nI_m1 (by omega) q.symm), if_neg (by decide)]
    exact ⟨rfl, rfl, fun q => absurd q (by decide)⟩
theorem stp_b (hs : s ≤ F) : s ≤ stp X F s ∧ stp X F s ≤ F ∧ (okp X F s = true → s + 4 ≤ stp X F s ∧ pk X F s < 9) := by
  unfold stp okp
  by_cases h : pk X F s = 9
  · rw [if_pos h, if_pos h]
    exact ⟨Nat.le_refl _, hs, fun q => absurd q (by decide)⟩
  · have h9 : pk X F s < 9 := by
      have : pk X F s ≤ 9 := by
        unfold pk
        repeat' split
        all_goals omega
      omega
    have hb := sT_b (X := X) h9 hs
    rw [if_neg h, if_neg h]
    exact ⟨hb.1, hb.2.1, fun q => ⟨hb.2.2 q, h9⟩⟩
/-- .. the class -/
theorem t_readC {Q : Int32 → mmT → Prop} {r : Nat} (hr : r < 60) (hF : F ≤ 60) (hX : ∀ i, i < F → X i ≤ 126) (hT : ST μ z) (ht : Tx μ z X F) (hs : s ≤ F)
    (h : ∀ ν, Ap z μ ν (fun b => b = z + (522 + r)) → mI ν 195 (z + 519) = mI μ 195 (z + 519) → mI ν 196 (z + 519) = nI (stp X F s) → (okp X F s = true → Cd G ν (z + (522 + r)) X F s (pk X F s)) → Q (if okp X F s = true then nI 1 else nI 0) ν) : w_X7_readCommand G μ (z + 519) (some (z + (522 + r))) (nI s) Q := by
  obtain ⟨e1, e2, e3⟩ := pick (X := X) hF hs
  refine t_readCommand hr hF hX hT ht hs (fun ν g h5 h6 hc => ?_)
  rw [e2]
  exact h ν g h5 (by rw [h6, e1]) (fun q => hc _ (e3 q))
end PICK

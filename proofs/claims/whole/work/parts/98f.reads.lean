/-! THE REFERENCE READS ONE COMMAND: the forms -/
section READS
variable {G : mgT} {μ ν ρ σ μ0 : mmT} {z a b c m i j k F n o f g s d : Nat} {X : Nat → Nat} {x y x2 y2 mk m1 m2 so : Int32} {P P2 : Nat → Prop}
theorem mk32 : ¬ (nI 32 = nI 35 ∨ nI 32 = nI 37) := by decide
theorem pm_2 (hm : mk = nI 35 ∨ mk = nI 37) : pm X F [nI 32, mk] s 0 0 0 = if ch X F s = nI 32 then (if (dr X F (md mk) (s + 1) (nI 0)).1 = s + 1 then (s + 1, false, (dr X F (md mk) (s + 1) (nI 0)).2, 0) else ((dr X F (md mk) (s + 1) (nI 0)).1, true, (dr X F (md mk) (s + 1) (nI 0)).2, 0)) else (s, false, 0, 0) := by
  rw [pm_c, if_neg mk32, pm_c, if_pos hm]
  rfl
theorem pm_3 (h1 : m1 = nI 35 ∨ m1 = nI 37) (h2 : m2 = nI 35 ∨ m2 = nI 37) : ((pm X F [nI 32, m1] s 0 0 0).2.1 = true → (pm X F [nI 32, m1, nI 32, m2] s 0 0 0).1 = (pm X F [nI 32, m2] (pm X F [nI 32, m1] s 0 0 0).1 0 0 0).1 ∧ (pm X F [nI 32, m1, nI 32, m2] s 0 0 0).2.1 = (pm X F [nI 32, m2] (pm X F [nI 32, m1] s 0 0 0).1 0 0 0).2.1 ∧
      ((pm X F [nI 32, m2] (pm X F [nI 32, m1] s 0 0 0).1 0 0 0).2.1 = true → (pm X F [nI 32, m1, nI 32, m2] s 0 0 0).2.2.1 = (pm X F [nI 32, m1] s 0 0 0).2.2.1 ∧ (pm X F [nI 32, m1, nI 32, m2] s 0 0 0).2.2.2 = (pm X F [nI 32, m2] (pm X F [nI 32, m1] s 0 0 0).1 0 0 0).2.2.1)) ∧
    (¬ (pm X F [nI 32, m1] s 0 0 0).2.1 = true → (pm X F [nI 32, m1, nI 32, m2] s 0 0 0).1 = (pm X F [nI 32, m1] s 0 0 0).1 ∧ (pm X F [nI 32, m1, nI 32, m2] s 0 0 0).2.1 = false) := by
  have e3 : pm X F [nI 32, m1, nI 32, m2] s 0 0 0 = if ch X F s = nI 32 then (if (dr X F (md m1) (s + 1) (nI 0)).1 = s + 1 then (s + 1, false, (dr X F (md m1) (s + 1) (nI 0)).2, 0) else pm X F [nI 32, m2] (dr X F (md m1) (s + 1) (nI 0)).1 1 (dr X F (md m1) (s + 1) (nI 0)).2 0) else (s, false, 0, 0) := by
    rw [pm_c, if_neg mk32, pm_c, if_pos h1]
    rfl
  rw [e3, pm_2 h1]
  by_cases c : ch X F s = nI 32
  · rw [if_pos c, if_pos c]
    generalize dr X F (md m1) (s + 1) (nI 0) = r
    by_cases e : r.1 = s + 1
    · rw [if_pos e, if_pos e]
      exact ⟨fun q => absurd (show false = true from q) (by decide), fun _ => ⟨rfl, rfl⟩⟩
    · rw [if_neg e, if_neg e]
      refine ⟨fun _ => ?_, fun q => absurd rfl q⟩
      have e4 : pm X F [nI 32, m2] r.1 1 r.2 0 = if ch X F r.1 = nI 32 then (if (dr X F (md m2) (r.1 + 1) (nI 0)).1 = r.1 + 1 then (r.1 + 1, false, r.2, (dr X F (md m2) (r.1 + 1) (nI 0)).2) else ((dr X F (md m2) (r.1 + 1) (nI 0)).1, true, r.2, (dr X F (md m2) (r.1 + 1) (nI 0)).2)) else (r.1, false, r.2, 0) := by
        rw [pm_c, if_neg mk32, pm_c, if_pos h2]
        rfl
      rw [e4]
      show _ = (pm X F [nI 32, m2] r.1 0 0 0).1 ∧ _ = (pm X F [nI 32, m2] r.1 0 0 0).2.1 ∧ ((pm X F [nI 32, m2] r.1 0 0 0).2.1 = true → _ = r.2 ∧ _ = (pm X F [nI 32, m2] r.1 0 0 0).2.2.1)
      rw [pm_2 h2]
      by_cases c2 : ch X F r.1 = nI 32
      · rw [if_pos c2, if_pos c2]
        generalize dr X F (md m2) (r.1 + 1) (nI 0) = r2
        by_cases e2 : r2.1 = r.1 + 1
        · rw [if_pos e2, if_pos e2]
          exact ⟨rfl, rfl, fun _ => ⟨rfl, rfl⟩⟩
        · rw [if_neg e2, if_neg e2]
          exact ⟨rfl, rfl, fun _ => ⟨rfl, rfl⟩⟩
      · rw [if_neg c2, if_neg c2]
        exact ⟨rfl, rfl, fun q => absurd (show false = true from q) (by decide)⟩
  · rw [if_neg c, if_neg c]
    exact ⟨fun q => absurd (show false = true from q) (by decide), fun _ => ⟨rfl, rfl⟩⟩
theorem s_num {Q : mmT → Prop} (hm : mk = nI 35 ∨ mk = nI 37) (hF : F ≤ 60) (hX : ∀ i, i < F → X i ≤ 126) (hT : ST μ z) (ht : Ty μ z X F) (h8 : mI μ 338 (z + 584) = nI c) (hc : c < 59) (hd : d < 3) (hs : s ≤ F) (h6 : mI μ 336 (z + 584) = nI s) (h9 : mI μ 339 (z + 584) = nI 0)
    (h : ∀ ν, Bm z μ ν (fun q => q = 3 * c + d) → mI ν 336 (z + 584) = nI (pm X F [nI 32, mk] s 0 0 0).1 → mI ν 339 (z + 584) = (if (pm X F [nI 32, mk] s 0 0 0).2.1 = true then nI 0 else nI 1) → ((pm X F [nI 32, mk] s 0 0 0).2.1 = true → mA ν (z + 591) (3 * c + d) = (pm X F [nI 32, mk] s 0 0 0).2.2.1) → Q ν) : w_X11_number G μ (z + 584) (nI d) (nI (md mk)) Q := by
  have e31 : gByt.getD 31 [] = [nI 32] := by decide +kernel
  have hmd : md mk ≤ 3 ∧ 1 ≤ md mk := by unfold md; split <;> omega
  unfold w_X11_number
  refine ⟨hT.km, s_says (j := 31) (by decide) (by rw [e31]; decide) (by rw [e31]; decide) hF hT ht hs h6 h9 (fun ν g r6 r9 => ?_)⟩
  rw [e31, pm_c, if_neg mk32] at r6 r9
  rw [pm_2 hm] at h
  have hT2 := hT.ag g.1
  have ht2 := ht.bm g
  have h8' : mI ν 338 (z + 584) = nI c := (g.2.1 _ (by decide) (by decide)).trans h8
  by_cases e : ch X F s = nI 32
  · rw [if_pos e] at r6 r9 h
    have h2 : s < F := Classical.byContradiction fun q => by
      rw [ch, if_neg q] at e
      exact absurd e (by decide)
    have hb := dr_b (X := X) (md mk) (s + 1) (nI 0) h2
    have := s_nl (G := G) (Q := Q) hF hX hT2 ht2 h8' hc hd (md mk) 0 (s + 1) (nI 0) ν (by omega) h2 Bm_rf r6 (r9.trans (if_pos rfl)) (fun ρ g2 r1 r2 r3 => ?_)
    · rw [Nat.zero_add] at this
      exact ⟨_, this⟩
    · have g3 : Bm z μ ρ (fun q => q = 3 * c + d) := (g.tr g2).up (fun b q => q.elim False.elim id)
      generalize dr X F (md mk) (s + 1) (nI 0) = r at *
      by_cases e2 : r.1 = s + 1
      · rw [if_pos e2] at h
        exact h ρ g3 (by rw [r1, e2]) (by rw [r2, if_pos (by omega), if_neg (show ¬ false = true by decide)]) (fun _ => r3)
      · rw [if_neg e2] at h
        exact h ρ g3 r1 (by rw [r2, if_neg (by omega), if_pos rfl]) (fun _ => r3)
  · rw [if_neg e] at r6 r9 h
    rw [if_neg (show ¬ false = true by decide)] at r9
    have fin : w_X11_number_b69 G (z + 584) Q (nI d) (nI 0) (nI 0) ν := ⟨hT2.km, fun _ => s_b87 (wr := 1) hT2 h8' hc hd (by decide) (fun ρ g2 r1 r2 r3 => h ρ ((g.tr g2).up (fun b q => q.elim False.elim id)) (r1.trans r6) (by rw [r2, if_neg (show ¬ false = true by decide)]) (fun q => absurd (show false = true from q) (by decide))), fun q => absurd (r9.symm.trans q) (by decide)⟩
    exact ⟨1, hT2.km, fun _ => fin, fun q => absurd (r9.symm.trans q) (by decide)⟩
theorem s_numW {Q : mmT → Prop} (hT : ST μ z) (h8 : mI μ 338 (z + 584) = nI c) (hc : c < 59) (hd : d < 3) (h9 : mI μ 339 (z + 584) = nI 1)
    (h : ∀ ν, Bm z μ ν (fun q => q = 3 * c + d) → mI ν 336 (z + 584) = mI μ 336 (z + 584) → mI ν 339 (z + 584) = nI 1 → Q ν) : w_X11_number G μ (z + 584) (nI d) x Q := by
  unfold w_X11_number
  refine ⟨hT.km, s_saysW (j := 31) (by decide) hT h9 ?_⟩
  have fin : w_X11_number_b69 G (z + 584) Q (nI d) (nI 0) (nI 0) μ := ⟨hT.km, fun _ => s_b87 (wr := 1) hT h8 hc hd (by decide) (fun ρ g2 r1 r2 r3 => h ρ g2 r1 r2), fun q => absurd (h9.symm.trans q) (by decide)⟩
  exact ⟨1, hT.km, fun _ => fin, fun q => absurd (h9.symm.trans q) (by decide)⟩
abbrev Tr (c : Nat) : Nat → Prop := fun q => 3 * c ≤ q ∧ q < 3 * c + 3
theorem s_one0 {Q : mmT → Prop} {x3 x4 : Int32} (hj : j < 48) (hcn : cn (gByt.getD j []) = 0) (hm : ∀ c, c ∈ gByt.getD j [] → c ≠ -1) (hF : F ≤ 60) (hT : ST μ z) (ht : Ty μ z X F) (h8 : mI μ 338 (z + 584) = nI c) (hc : c < 59) (hs : s ≤ F) (h6 : mI μ 336 (z + 584) = nI s) (h9 : mI μ 339 (z + 584) = nI 0)
    (h : ∀ ν, Bm z μ ν (Tr c) → mI ν 336 (z + 584) = nI (pm X F (gByt.getD j []) s 0 0 0).1 → mI ν 339 (z + 584) = (if (pm X F (gByt.getD j []) s 0 0 0).2.1 = true then nI 0 else nI 1) → mA ν (z + 591) (3 * c) = so → mA ν (z + 591) (3 * c + 1) = nI 1 →
      (x3 ≤ 0 → w_X11_one_b41 G (z + 584) Q x4 ν) ∧ (¬ x3 ≤ 0 → mK ν (z + 584) = 11 ∧ w_X11_number G ν (z + 584) (nI 1) x3 (fun μ16 => w_X11_one_b41 G (z + 584) Q x4 μ16))) : w_X11_one G μ (z + 584) so (some (gS G j)) x3 x4 Q := by
  have q1 : mI (sA μ (z + 591) (3 * c) so) 338 (z + 584) = nI c := sA_I.trans h8
  have g : Bm z μ (sA (sA μ (z + 591) (3 * c) so) (z + 591) (3 * c + 1) (nI 1)) (Tr c) := (Bm_sA.tr Bm_sA).up (fun q r => by
    show 3 * c ≤ q ∧ q < 3 * c + 3
    omega)
  have c1 : mA (sA (sA μ (z + 591) (3 * c) so) (z + 591) (3 * c + 1) (nI 1)) (z + 591) (3 * c) = so := (sA_o (by omega)).trans sA_e
  have c2 : mA (sA (sA μ (z + 591) (3 * c) so) (z + 591) (3 * c + 1) (nI 1)) (z + 591) (3 * c + 1) = nI 1 := sA_e
  have k6 : mI (sA (sA μ (z + 591) (3 * c) so) (z + 591) (3 * c + 1) (nI 1)) 336 (z + 584) = nI s := sA_I.trans (sA_I.trans h6)
  have k9 : mI (sA (sA μ (z + 591) (3 * c) so) (z + 591) (3 * c + 1) (nI 1)) 339 (z + 584) = nI 0 := sA_I.trans (sA_I.trans h9)
  unfold w_X11_one
  rw [h8, pk_mul, cl (by omega)]
  refine ⟨hT.km, z + 591, hT.to.1, hT.to.2.1, vp_th hT.to.2.2 (by omega) (by decide), z + 591, hT.to.1, hT.to.2.1, ?_⟩
  rw [q1, pk_mul, nI_add, cl (by omega)]
  refine ⟨vp_th hT.to.2.2 (by omega) (by decide), ?_⟩
  generalize sA (sA μ (z + 591) (3 * c) so) (z + 591) (3 * c + 1) (nI 1) = σ at *
  exact s_says hj hcn hm hF (hT.ag g.1) (ht.bm g) hs k6 k9 (fun ν g2 r6 r9 => h ν ((g.tr g2).up (fun b q => q.elim id False.elim)) r6 r9 ((g2.2.2 _ id).trans c1) ((g2.2.2 _ id).trans c2))
theorem s_oneA {Q : mmT → Prop} (hj : j < 48) (hcn : cn (gByt.getD j []) = 0) (hm : ∀ c, c ∈ gByt.getD j [] → c ≠ -1) (hF : F ≤ 60) (hT : ST μ z) (ht : Ty μ z X F) (h8 : mI μ 338 (z + 584) = nI c) (hc : c < 59) (hs : s ≤ F) (h6 : mI μ 336 (z + 584) = nI s) (h9 : mI μ 339 (z + 584) = nI 0)
    (h : ∀ ν, Bm z μ ν (Tr c) → mI ν 336 (z + 584) = nI (pm X F (gByt.getD j []) s 0 0 0).1 → mI ν 339 (z + 584) = (if (pm X F (gByt.getD j []) s 0 0 0).2.1 = true then nI 0 else nI 1) → mA ν (z + 591) (3 * c) = so → mA ν (z + 591) (3 * c + 1) = nI 1 → Q ν) : w_X11_one G μ (z + 584) so (some (gS G j)) (nI 0) (nI 0) Q :=
  s_one0 hj hcn hm hF hT ht h8 hc hs h6 h9 (fun ν g r6 r9 c1 c2 => ⟨fun _ => ⟨fun _ => h ν g r6 r9 c1 c2, fun q => absurd (by decide) q⟩, fun q => absurd (by decide) q⟩)
theorem md_pos (hm : mk = nI 35 ∨ mk = nI 37) : ¬ nI (md mk) ≤ 0 := by
  rcases hm with q | q
  · subst q; decide
  · subst q; decide
theorem s_oneB {Q : mmT → Prop} (hmk : mk = nI 35 ∨ mk = nI 37) (hj : j < 48) (hcn : cn (gByt.getD j []) = 0) (hm : ∀ c, c ∈ gByt.getD j [] → c ≠ -1) (hF : F ≤ 60) (hX : ∀ i, i < F → X i ≤ 126) (hT : ST μ z) (ht : Ty μ z X F) (h8 : mI μ 338 (z + 584) = nI c) (hc : c < 59) (hs : s ≤ F) (h6 : mI μ 336 (z + 584) = nI s) (h9 : mI μ 339 (z + 584) = nI 0)
    (h : ∀ ν, Bm z μ ν (Tr c) → mI ν 336 (z + 584) = nI (pm X F (gByt.getD j [] ++ [nI 32, mk]) s 0 0 0).1 → mI ν 339 (z + 584) = (if (pm X F (gByt.getD j [] ++ [nI 32, mk]) s 0 0 0).2.1 = true then nI 0 else nI 1) → mA ν (z + 591) (3 * c) = so → ((pm X F (gByt.getD j [] ++ [nI 32, mk]) s 0 0 0).2.1 = true → mA ν (z + 591) (3 * c + 1) = (pm X F (gByt.getD j [] ++ [nI 32, mk]) s 0 0 0).2.2.1) → Q ν) : w_X11_one G μ (z + 584) so (some (gS G j)) (nI (md mk)) (nI 0) Q := by
  refine s_one0 hj hcn hm hF hT ht h8 hc hs h6 h9 (fun ν g r6 r9 c1 c2 => ⟨fun q => absurd q (md_pos hmk), fun _ => ?_⟩)
  have hT2 := hT.ag g.1
  have h8' : mI ν 338 (z + 584) = nI c := (g.2.1 _ (by decide) (by decide)).trans h8
  have up : ∀ ρ, Bm z ν ρ (fun q => q = 3 * c + 1) → Bm z μ ρ (Tr c) := fun ρ g2 => (g.tr g2).up (fun q r => r.elim id (fun r => by show 3 * c ≤ q ∧ q < 3 * c + 3; omega))
  refine ⟨hT2.km, ?_⟩
  have hb := pm_b (X := X) (gByt.getD j []) s 0 0 0 hs hm
  rw [pm_app _ _ _ _ _ _ hcn] at h
  generalize pm X F (gByt.getD j []) s 0 0 0 = w at *
  by_cases e : w.2.1 = true
  · rw [if_pos e] at r9 h
    exact s_num hmk hF hX hT2 (ht.bm g) h8' hc (by decide) hb.2.1 r6 r9 (fun ρ g2 p1 p2 p3 => ⟨fun _ => h ρ (up ρ g2) p1 p2 ((g2.2.2 _ (by omega)).trans c1) p3, fun q => absurd (by decide) q⟩)
  · rw [if_neg e] at r9 h
    exact s_numW hT2 h8' hc (by decide) r9 (fun ρ g2 p1 p2 => ⟨fun _ => h ρ (up ρ g2) (p1.trans r6) (by rw [p2, if_neg (show ¬ false = true by decide)]) ((g2.2.2 _ (by omega)).trans c1) (fun q => absurd (show false = true from q) (by decide)), fun q => absurd (by decide) q⟩)
theorem s_oneC {Q : mmT → Prop} (h1 : m1 = nI 35 ∨ m1 = nI 37) (h2 : m2 = nI 35 ∨ m2 = nI 37) (hj : j < 48) (hcn : cn (gByt.getD j []) = 0) (hm : ∀ c, c ∈ gByt.getD j [] → c ≠ -1) (hF : F ≤ 60) (hX : ∀ i, i < F → X i ≤ 126) (hT : ST μ z) (ht : Ty μ z X F) (h8 : mI μ 338 (z + 584) = nI c) (hc : c < 59) (hs : s ≤ F) (h6 : mI μ 336 (z + 584) = nI s) (h9 : mI μ 339 (z + 584) = nI 0)
    (h : ∀ ν, Bm z μ ν (Tr c) → mI ν 336 (z + 584) = nI (pm X F (gByt.getD j [] ++ [nI 32, m1, nI 32, m2]) s 0 0 0).1 → mI ν 339 (z + 584) = (if (pm X F (gByt.getD j [] ++ [nI 32, m1, nI 32, m2]) s 0 0 0).2.1 = true then nI 0 else nI 1) → mA ν (z + 591) (3 * c) = so →
      ((pm X F (gByt.getD j [] ++ [nI 32, m1, nI 32, m2]) s 0 0 0).2.1 = true → mA ν (z + 591) (3 * c + 1) = (pm X F (gByt.getD j [] ++ [nI 32, m1, nI 32, m2]) s 0 0 0).2.2.1 ∧ mA ν (z + 591) (3 * c + 2) = (pm X F (gByt.getD j [] ++ [nI 32, m1, nI 32, m2]) s 0 0 0).2.2.2) → Q ν) : w_X11_one G μ (z + 584) so (some (gS G j)) (nI (md m1)) (nI (md m2)) Q := by
  refine s_one0 hj hcn hm hF hT ht h8 hc hs h6 h9 (fun ν g r6 r9 c1 c2 => ⟨fun q => absurd q (md_pos h1), fun _ => ?_⟩)
  have hT2 := hT.ag g.1
  have h8' : mI ν 338 (z + 584) = nI c := (g.2.1 _ (by decide) (by decide)).trans h8
  have up : ∀ ρ, Bm z ν ρ (fun q => q = 3 * c + 1) → Bm z μ ρ (Tr c) := fun ρ g2 => (g.tr g2).up (fun q r => r.elim id (fun r => by show 3 * c ≤ q ∧ q < 3 * c + 3; omega))
  have up2 : ∀ ρ σ, Bm z ν ρ (fun q => q = 3 * c + 1) → Bm z ρ σ (fun q => q = 3 * c + 2) → Bm z μ σ (Tr c) := fun ρ σ g2 g3 => ((up ρ g2).tr g3).up (fun q r => r.elim id (fun r => by show 3 * c ≤ q ∧ q < 3 * c + 3; omega))
  have h28 : ∀ ρ, Bm z ν ρ (fun q => q = 3 * c + 1) → mI ρ 338 (z + 584) = nI c := fun ρ g2 => (g2.2.1 _ (by decide) (by decide)).trans h8'
  refine ⟨hT2.km, ?_⟩
  have hb := pm_b (X := X) (gByt.getD j []) s 0 0 0 hs hm
  rw [pm_app _ _ _ _ _ _ hcn] at h
  generalize pm X F (gByt.getD j []) s 0 0 0 = w at *
  by_cases e : w.2.1 = true
  · rw [if_pos e] at r9 h
    obtain ⟨y1, y2⟩ := pm_3 (X := X) (F := F) (s := w.1) h1 h2
    refine s_num h1 hF hX hT2 (ht.bm g) h8' hc (by decide) hb.2.1 r6 r9 (fun ρ g2 p1 p2 p3 => ⟨fun q => absurd q (md_pos h2), fun _ => ⟨(hT2.ag g2.1).km, ?_⟩⟩)
    have hb2 := pm_b (X := X) [nI 32, m1] w.1 0 0 0 hb.2.1 (fun c q => by
      rcases h1 with r | r
      · subst r; exact (by decide : ∀ c, c ∈ [nI 32, nI 35] → c ≠ -1) c q
      · subst r; exact (by decide : ∀ c, c ∈ [nI 32, nI 37] → c ≠ -1) c q)
    by_cases e2 : (pm X F [nI 32, m1] w.1 0 0 0).2.1 = true
    · obtain ⟨a1, a2, a3⟩ := y1 e2
      rw [if_pos e2] at p2
      refine s_num h2 hF hX (hT2.ag g2.1) ((ht.bm g).bm g2) (h28 ρ g2) hc (by decide) hb2.2.1 p1 p2 (fun τ g3 t1 t2 t3 => h τ (up2 ρ τ g2 g3) (by rw [a1]; exact t1) (by rw [a2]; exact t2) ((g3.2.2 _ (by omega)).trans ((g2.2.2 _ (by omega)).trans c1)) (fun q => ?_))
      rw [a2] at q
      rw [(a3 q).1, (a3 q).2]
      exact ⟨(g3.2.2 _ (by omega)).trans (p3 e2), t3 q⟩
    · obtain ⟨a1, a2⟩ := y2 e2
      rw [if_neg e2] at p2
      exact s_numW (hT2.ag g2.1) (h28 ρ g2) hc (by decide) p2 (fun τ g3 t1 t2 => h τ (up2 ρ τ g2 g3) (by rw [a1]; exact t1.trans p1) (by rw [a2, t2, if_neg (show ¬ false = true by decide)]) ((g3.2.2 _ (by omega)).trans ((g2.2.2 _ (by omega)).trans c1)) (fun q => absurd (a2.symm.trans q) (by decide)))
  · rw [if_neg e] at r9 h
    exact s_numW hT2 h8' hc (by decide) r9 (fun ρ g2 p1 p2 => ⟨fun q => absurd q (md_pos h2), fun _ => ⟨(hT2.ag g2.1).km, s_numW (hT2.ag g2.1) (h28 ρ g2) hc (by decide) p2 (fun τ g3 t1 t2 => h τ (up2 ρ τ g2 g3) (t1.trans (p1.trans r6)) (by rw [t2, if_neg (show ¬ false = true by decide)]) ((g3.2.2 _ (by omega)).trans ((g2.2.2 _ (by omega)).trans c1)) (fun q => absurd (show false = true from q) (by decide)))⟩⟩)
end READS

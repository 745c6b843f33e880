/-! THE REFERENCE READS ONE COMMAND: which form -/
def sor (g : Nat) : Int32 := ([110, 99, 115, 114, 100, 119, 102, 97, 97] : List Int32).getD g 0
section ONE
variable {G : mgT} {μ ν ρ σ μ0 : mmT} {z a b c m i j k F n o f g s d : Nat} {X : Nat → Nat} {x y x2 y2 mk m1 m2 so : Int32} {P P2 : Nat → Prop}
def Br (z : Nat) (μ ν : mmT) (P : Nat → Prop) : Prop := Ag z μ ν (fun b => b = z + 584 ∨ b = z + 591) ∧ (∀ F, F ≠ 336 → F ≠ 338 → F ≠ 339 → mI ν F (z + 584) = mI μ F (z + 584)) ∧ ∀ q, ¬ P q → mA ν (z + 591) q = mA μ (z + 591) q
theorem Br.tr (h : Br z μ ν P) (h2 : Br z ν ρ P2) : Br z μ ρ (fun b => P b ∨ P2 b) := ⟨(h.1.tr h2.1).up (fun b q => q.elim id id), fun F h1 h3 h4 => (h2.2.1 F h1 h3 h4).trans (h.2.1 F h1 h3 h4), fun q r => (h2.2.2 q (fun e => r (Or.inr e))).trans (h.2.2 q (fun e => r (Or.inl e)))⟩
theorem Br.up (h : Br z μ ν P) (hP : ∀ b, P b → P2 b) : Br z μ ν P2 := ⟨h.1, h.2.1, fun q r => h.2.2 q (fun e => r (hP q e))⟩
theorem Bm.br (h : Bm z μ ν P) : Br z μ ν P := ⟨h.1, fun F h1 _ h2 => h.2.1 F h1 h2, h.2.2⟩
theorem Br_sI (hF : F = 336 ∨ F = 338 ∨ F = 339) : Br z μ (sI μ F (z + 584) x) P := ⟨Ag_sI.up (fun b q => Or.inl q), fun F2 h1 h2 h3 => sI_o (by omega), fun q _ => sI_A⟩
theorem Ty.br (h : Ty μ z X F) (g : Br z μ ν P) : Ty ν z X F := ⟨(g.2.1 _ (by decide) (by decide) (by decide)).trans h.1, fun i hi => (g.1.A (by omega)).trans (h.2 i hi)⟩
/-- what the reference keeps of a command that starts at s, the c-th -/
def Md (ν : mmT) (z : Nat) (X : Nat → Nat) (F s c : Nat) : Prop := mA ν (z + 591) (3 * c) = sor (pk X F s) ∧ (pk X F s ≠ 1 → pk X F s ≠ 7 → mA ν (z + 591) (3 * c + 1) = (pm X F (fp (pk X F s)) s 0 0 0).2.2.1) ∧ (pk X F s = 7 → mA ν (z + 591) (3 * c + 1) = nI 1) ∧ (pk X F s = 0 ∨ pk X F s = 2 → mA ν (z + 591) (3 * c + 2) = (pm X F (fp (pk X F s)) s 0 0 0).2.2.2)
theorem wds : fp 0 = gByt.getD 30 [] ++ [nI 32, nI 35, nI 32, nI 35] ∧ fp 1 = gByt.getD 32 [] ∧ fp 2 = gByt.getD 33 [] ++ [nI 32, nI 35, nI 32, nI 37] ∧ fp 3 = gByt.getD 34 [] ++ [nI 32, nI 35] ∧ fp 4 = gByt.getD 35 [] ++ [nI 32, nI 37] ∧ fp 5 = gByt.getD 38 [] ++ [nI 32, nI 35] ∧ fp 6 = gByt.getD 36 [] ++ [nI 32, nI 35] ∧ fp 7 = gByt.getD 37 [] ∧ fp 8 = gByt.getD 37 [] ++ [nI 32, nI 37] := by decide +kernel
theorem wd_ok0 : ∀ j, j < 39 → 30 ≤ j → cn (gByt.getD j []) = 0 ∧ ∀ c, c ∈ gByt.getD j [] → c ≠ -1 := by decide +kernel
theorem wd_ok : ∀ j, 30 ≤ j → j < 39 → cn (gByt.getD j []) = 0 ∧ ∀ c, c ∈ gByt.getD j [] → c ≠ -1 := fun j h1 h2 => wd_ok0 j h2 h1
theorem s_readsOne {Q : mmT → Prop} (hF : F ≤ 60) (hX : ∀ i, i < F → X i ≤ 126) (hT : ST μ z) (ht : Ty μ z X F) (h8 : mI μ 338 (z + 584) = nI c) (hc : c < 59) (hs : s ≤ F) (h6 : mI μ 336 (z + 584) = nI s) (h9 : mI μ 339 (z + 584) = nI 0)
    (h : ∀ ν, Br z μ ν (Tr c) → mI ν 336 (z + 584) = nI (stp X F s) → mI ν 339 (z + 584) = (if okp X F s = true then nI 0 else nI 1) → mI ν 338 (z + 584) = nI (c + 1) → (okp X F s = true → Md ν z X F s c) → Q ν) : w_X11_readsOne G μ (z + 584) Q := by
  obtain ⟨w0, w1, w2, w3, w4, w5, w6, w7, w8⟩ := wds
  have fin : ∀ ν, Bm z μ ν (Tr c) → mI ν 336 (z + 584) = nI (stp X F s) → mI ν 339 (z + 584) = (if okp X F s = true then nI 0 else nI 1) → (okp X F s = true → Md ν z X F s c) → w_X11_readsOne_b246 G (z + 584) Q ν := by
    intro ν g r6 r9 rd
    have e8 : mI ν 338 (z + 584) = nI c := (g.2.1 _ (by decide) (by decide)).trans h8
    unfold w_X11_readsOne_b246
    rw [e8, nI_add]
    exact ⟨(hT.ag g.1).km, h _ ((g.br.tr (Br_sI (P := Tr c) (Or.inr (Or.inl rfl)))).up (fun b q => q.elim id id)) ((sI_o (by omega)).trans r6) ((sI_o (by omega)).trans r9) sI_e (fun q => rd q)⟩
  have fg : ∀ g, g < 9 → pk X F s = g → ∀ ν, Bm z μ ν (Tr c) → mI ν 336 (z + 584) = nI (pm X F (fp g) s 0 0 0).1 → mI ν 339 (z + 584) = (if (pm X F (fp g) s 0 0 0).2.1 = true then nI 0 else nI 1) → ((pm X F (fp g) s 0 0 0).2.1 = true → Md ν z X F s c) → w_X11_readsOne_b246 G (z + 584) Q ν := by
    intro g hg hp ν gg r6 r9 rd
    have n9 : ¬ pk X F s = 9 := by omega
    have e1 : stp X F s = (pm X F (fp g) s 0 0 0).1 := by unfold stp; rw [if_neg n9, hp]; rfl
    have e2 : okp X F s = (pm X F (fp g) s 0 0 0).2.1 := by unfold okp; rw [if_neg n9, hp]; rfl
    exact fin ν gg (by rw [e1]; exact r6) (by rw [e2]; exact r9) (fun q => rd (by rw [e2] at q; exact q))
  have hw : ∀ j, 30 ≤ j → j < 39 → cn (gByt.getD j []) = 0 ∧ ∀ c, c ∈ gByt.getD j [] → c ≠ -1 := wd_ok
  unfold w_X11_readsOne
  refine ⟨hT.km, s_here hT ht hF h6 hs (by decide) ?_⟩
  rw [Nat.add_zero]
  refine ⟨fun e => ?_, fun e => ?_, fun e => ?_, fun e => ?_, fun e => ?_, fun e => ?_, fun e => ?_, fun e => ?_⟩
  · have p9 : pk X F s = 9 := by
      unfold pk
      rw [if_neg (e 110 (by decide)), if_neg (e 99 (by decide)), if_neg (e 115 (by decide)), if_neg (e 114 (by decide)), if_neg (e 100 (by decide)), if_neg (e 102 (by decide)), if_neg (e 119 (by decide))]
    have o9 : okp X F s = false := by unfold okp; rw [if_pos p9]
    refine fin _ (Bm_sI (Or.inr rfl)) ((sI_o (by omega)).trans (h6.trans ?_)) (sI_e.trans ?_) (fun q => absurd (o9.symm.trans q) (by decide))
    · unfold stp; rw [if_pos p9]
    · rw [o9]; rfl
  · have hp : pk X F s = 1 := by unfold pk; rw [e]; rfl
    refine s_oneA (j := 32) (by decide) (hw 32 (by decide) (by decide)).1 (hw 32 (by decide) (by decide)).2 hF hT ht h8 hc hs h6 h9 (fun ν g r6 r9 c1 c2 => ?_)
    rw [← w1] at r6 r9
    refine fg 1 (by decide) hp ν g r6 r9 (fun _ => ?_)
    unfold Md
    rw [hp]
    exact ⟨c1, fun q => absurd rfl q, fun q => absurd q (by decide), fun q => absurd q (by decide)⟩
  · have hp : pk X F s = 4 := by unfold pk; rw [e]; rfl
    refine s_oneB (mk := nI 37) (Or.inr rfl) (j := 35) (by decide) (hw 35 (by decide) (by decide)).1 (hw 35 (by decide) (by decide)).2 hF hX hT ht h8 hc hs h6 h9 (fun ν g r6 r9 c1 c2 => ?_)
    rw [← w4] at r6 r9 c2
    refine fg 4 (by decide) hp ν g r6 r9 (fun r => ?_)
    unfold Md
    rw [hp]
    exact ⟨c1, fun _ _ => c2 r, fun q => absurd q (by decide), fun q => absurd q (by decide)⟩
  · have hp : pk X F s = 6 := by unfold pk; rw [e]; rfl
    refine s_oneB (mk := nI 35) (Or.inl rfl) (j := 36) (by decide) (hw 36 (by decide) (by decide)).1 (hw 36 (by decide) (by decide)).2 hF hX hT ht h8 hc hs h6 h9 (fun ν g r6 r9 c1 c2 => ?_)
    rw [← w6] at r6 r9 c2
    refine fg 6 (by decide) hp ν g r6 r9 (fun r => ?_)
    unfold Md
    rw [hp]
    exact ⟨c1, fun _ _ => c2 r, fun q => absurd q (by decide), fun q => absurd q (by decide)⟩
  · have hp : pk X F s = 0 := by unfold pk; rw [e]; rfl
    refine s_oneC (m1 := nI 35) (m2 := nI 35) (Or.inl rfl) (Or.inl rfl) (j := 30) (by decide) (hw 30 (by decide) (by decide)).1 (hw 30 (by decide) (by decide)).2 hF hX hT ht h8 hc hs h6 h9 (fun ν g r6 r9 c1 c2 => ?_)
    rw [← w0] at r6 r9 c2
    refine fg 0 (by decide) hp ν g r6 r9 (fun r => ?_)
    unfold Md
    rw [hp]
    exact ⟨c1, fun _ _ => (c2 r).1, fun q => absurd q (by decide), fun _ => (c2 r).2⟩
  · have hp : pk X F s = 3 := by unfold pk; rw [e]; rfl
    refine s_oneB (mk := nI 35) (Or.inl rfl) (j := 34) (by decide) (hw 34 (by decide) (by decide)).1 (hw 34 (by decide) (by decide)).2 hF hX hT ht h8 hc hs h6 h9 (fun ν g r6 r9 c1 c2 => ?_)
    rw [← w3] at r6 r9 c2
    refine fg 3 (by decide) hp ν g r6 r9 (fun r => ?_)
    unfold Md
    rw [hp]
    exact ⟨c1, fun _ _ => c2 r, fun q => absurd q (by decide), fun q => absurd q (by decide)⟩
  · have hp : pk X F s = 2 := by unfold pk; rw [e]; rfl
    refine s_oneC (m1 := nI 35) (m2 := nI 37) (Or.inl rfl) (Or.inr rfl) (j := 33) (by decide) (hw 33 (by decide) (by decide)).1 (hw 33 (by decide) (by decide)).2 hF hX hT ht h8 hc hs h6 h9 (fun ν g r6 r9 c1 c2 => ?_)
    rw [← w2] at r6 r9 c2
    refine fg 2 (by decide) hp ν g r6 r9 (fun r => ?_)
    unfold Md
    rw [hp]
    exact ⟨c1, fun _ _ => (c2 r).1, fun q => absurd q (by decide), fun _ => (c2 r).2⟩
  · have ep : pk X F s = (if ch X F (s + 1) = nI 97 then (if oK X F 7 s = true ∧ ch X F (sT X F 7 s) = nI 32 then 8 else 7) else 5) := by unfold pk; rw [e]; rfl
    refine s_here hT ht hF h6 hs (by decide) ⟨fun ca => ?_, fun ca => ?_⟩
    · have hp : pk X F s = 5 := by rw [ep, if_neg ca]
      refine s_oneB (mk := nI 35) (Or.inl rfl) (j := 38) (by decide) (hw 38 (by decide) (by decide)).1 (hw 38 (by decide) (by decide)).2 hF hX hT ht h8 hc hs h6 h9 (fun ν g r6 r9 c1 c2 => ?_)
      rw [← w5] at r6 r9 c2
      refine fg 5 (by decide) hp ν g r6 r9 (fun r => ?_)
      unfold Md
      rw [hp]
      exact ⟨c1, fun _ _ => c2 r, fun q => absurd q (by decide), fun q => absurd q (by decide)⟩
    · rw [if_pos ca] at ep
      refine s_oneA (j := 37) (by decide) (hw 37 (by decide) (by decide)).1 (hw 37 (by decide) (by decide)).2 hF hT ht h8 hc hs h6 h9 (fun ν g r6 r9 c1 c2 => ?_)
      rw [← w7] at r6 r9
      have hT2 := hT.ag g.1
      have b7 := sT_b (X := X) (f := 7) (by decide) hs
      have f7 : ¬ (oK X F 7 s = true ∧ ch X F (sT X F 7 s) = nI 32) → w_X11_readsOne_b246 G (z + 584) Q ν := fun q => by
        have hp : pk X F s = 7 := by rw [ep, if_neg q]
        refine fg 7 (by decide) hp ν g r6 r9 (fun r => ?_)
        unfold Md
        rw [hp]
        exact ⟨c1, fun _ q => absurd rfl q, fun _ => c2, fun q => absurd q (by decide)⟩
      refine ⟨hT2.km, fun q => f7 (fun r => ?_), fun q => ?_⟩
      · rw [show (pm X F (fp 7) s 0 0 0).2.1 = oK X F 7 s from rfl, if_pos r.1] at r9
        exact q r9
      · have o7 : oK X F 7 s = true := Classical.byContradiction fun r => by
          rw [show (pm X F (fp 7) s 0 0 0).2.1 = oK X F 7 s from rfl, if_neg r] at r9
          exact absurd (r9.symm.trans q) (by decide)
        refine s_here (s := sT X F 7 s) hT2 (ht.bm g) hF r6 b7.2.1 (by decide) ?_
        rw [Nat.add_zero]
        refine ⟨fun n32 => f7 (fun r => n32 r.2), fun e32 => ?_⟩
        have hp : pk X F s = 8 := by rw [ep, if_pos ⟨o7, e32⟩]
        have e8 : pm X F (fp 8) s 0 0 0 = pm X F [nI 32, nI 37] (sT X F 7 s) 0 0 0 := by
          rw [w8, pm_app _ _ _ _ _ _ (hw 37 (by decide) (by decide)).1, ← w7, if_pos (show (pm X F (fp 7) s 0 0 0).2.1 = true from o7)]
          rfl
        have h8' : mI ν 338 (z + 584) = nI c := (g.2.1 _ (by decide) (by decide)).trans h8
        refine s_num (mk := nI 37) (s := sT X F 7 s) (d := 1) (Or.inr rfl) hF hX hT2 (ht.bm g) h8' hc (by decide) b7.2.1 r6 q (fun ρ g2 p1 p2 p3 => ?_)
        rw [← e8] at p1 p2 p3
        refine fg 8 (by decide) hp ρ ((g.tr g2).up (fun q r => r.elim id (fun r => by show 3 * c ≤ q ∧ q < 3 * c + 3; omega))) p1 p2 (fun r => ?_)
        unfold Md
        rw [hp]
        exact ⟨(g2.2.2 _ (by omega)).trans c1, fun _ _ => p3 r, fun q => absurd q (by decide), fun q => absurd q (by decide)⟩
end ONE

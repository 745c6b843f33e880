/-! THE REFERENCE READS ONE COMMAND -/
section SAYS
variable {G : mgT} {μ ν ρ σ μ0 : mmT} {z a b c m i j k F n o f g s : Nat} {X : Nat → Nat} {x y x2 y2 : Int32} {P P2 : Nat → Prop}
/-- the memory while the reference reads: its own numbers, told at P -/
def Bm (z : Nat) (μ ν : mmT) (P : Nat → Prop) : Prop := Ag z μ ν (fun b => b = z + 584 ∨ b = z + 591) ∧ (∀ F, F ≠ 336 → F ≠ 339 → mI ν F (z + 584) = mI μ F (z + 584)) ∧ ∀ q, ¬ P q → mA ν (z + 591) q = mA μ (z + 591) q
theorem Bm_rf : Bm z μ μ P := ⟨Ag_rf, fun _ _ _ => rfl, fun _ _ => rfl⟩
theorem Bm.tr (h : Bm z μ ν P) (h2 : Bm z ν ρ P2) : Bm z μ ρ (fun b => P b ∨ P2 b) := ⟨(h.1.tr h2.1).up (fun b q => q.elim id id), fun F h1 h3 => (h2.2.1 F h1 h3).trans (h.2.1 F h1 h3), fun q r => (h2.2.2 q (fun e => r (Or.inr e))).trans (h.2.2 q (fun e => r (Or.inl e)))⟩
theorem Bm.up (h : Bm z μ ν P) (hP : ∀ b, P b → P2 b) : Bm z μ ν P2 := ⟨h.1, h.2.1, fun q r => h.2.2 q (fun e => r (hP q e))⟩
theorem Bm_sI (hF : F = 336 ∨ F = 339) : Bm z μ (sI μ F (z + 584) x) P := ⟨Ag_sI.up (fun b q => Or.inl q), fun F2 h1 h2 => sI_o (by omega), fun q _ => sI_A⟩
theorem Bm_sA : Bm z μ (sA μ (z + 591) i x) (fun q => q = i) := ⟨Ag_sA.up (fun b q => Or.inr q), fun F2 h1 h2 => sA_I, fun q r => sA_o (fun e => r e.2)⟩
/-- the reference's text -/
def Ty (μ : mmT) (z : Nat) (X : Nat → Nat) (F : Nat) : Prop := mI μ 337 (z + 584) = nI F ∧ ∀ i, i < F → mA μ (z + 590) i = nI (X i)
theorem Ty.bm (h : Ty μ z X F) (g : Bm z μ ν P) : Ty ν z X F := ⟨(g.2.1 _ (by decide) (by decide)).trans h.1, fun i hi => (g.1.A (by omega)).trans (h.2 i hi)⟩
theorem s_here {Q : Int32 → Prop} {d : Nat} (hT : ST μ z) (ht : Ty μ z X F) (hF : F ≤ 60) (h6 : mI μ 336 (z + 584) = nI s) (hs : s ≤ F) (hd : d < 9) (h : Q (ch X F (s + d))) : w_X11_here G μ (z + 584) (nI d) Q := by
  unfold w_X11_here w_X11_here_b28
  rw [ht.1, h6, nI_add]
  refine ⟨hT.km, fun e => ?_, fun e => ?_⟩
  · have : ¬ s + d < F := by have := (nI_leI (by omega) (by omega)).mp e; omega
    rw [ch, if_neg this] at h
    exact h
  · have h2 : s + d < F := Classical.byContradiction fun q => e ((nI_leI (by omega) (by omega)).mpr (by omega))
    refine ⟨z + 590, hT.tx.1, hT.tx.2.1, vp_th hT.tx.2.2 (by omega) (by decide), ?_⟩
    rw [cl (by omega), ht.2 _ h2]
    rw [ch, if_pos h2] at h
    exact h
theorem s_sl {Q : mmT → Prop} (hj : j < 48) (hF : F ≤ 60) (hT0 : ST μ0 z) (ht0 : Ty μ0 z X F) : ∀ (p : List Int32) (k s : Nat) (μ : mmT), (gByt.getD j []).drop k = p → k ≤ gLen.getD j 0 → cn p = 0 → (∀ c, c ∈ p → c ≠ -1) → s ≤ F → Bm z μ0 μ P → mI μ 336 (z + 584) = nI s → mI μ 339 (z + 584) = nI 0 →
    (∀ ν, Bm z μ0 ν P → (∀ q, mA ν (z + 591) q = mA μ (z + 591) q) → mI ν 336 (z + 584) = nI (pm X F p s 0 0 0).1 → mI ν 339 (z + 584) = (if (pm X F p s 0 0 0).2.1 = true then nI 0 else nI 1) → Q ν) → w_X11_says_l2 G (z + 584) Q (p.length + 1) (some (gS G j)) (nI k) μ
  | [], k, s, μ, hp, hk, hc, hm, hs, hB, h6, h9, h => by
    have hl := gb_len j hj
    have hk : gLen.getD j 0 ≤ k := by
      have := List.drop_eq_nil_iff.mp hp
      omega
    exact ⟨gS G j, rfl, j, rfl, hj, g_len hj ⟨fun _ => h μ hB (fun _ => rfl) h6 h9, fun c => absurd (nI_le hk (by omega)) c⟩⟩
  | c :: p, k, s, μ, hp, hk, hc, hm, hs, hB, h6, h9, h => by
    have hT := hT0.ag hB.1
    have ht := ht0.bm hB
    have hl := gb_len j hj
    obtain ⟨q1, q2, q3⟩ := l_drop hp
    have hk2 : k < gLen.getD j 0 := by omega
    have ec : cn (c :: p) = cn p + if c = nI 35 ∨ c = nI 37 then 1 else 0 := rfl
    have d : ¬ (c = nI 35 ∨ c = nI 37) := fun d => by
      rw [if_pos d] at ec
      omega
    rw [if_neg d] at ec
    rw [pm_c, if_neg d] at h
    refine ⟨gS G j, rfl, j, rfl, hj, g_len hj ⟨fun e => absurd ((nI_leI (by omega) (by omega)).mp e) (by omega), fun _ => ⟨hT.km, fun e => absurd h9 e, fun _ => s_here hT ht hF h6 hs (by decide) (g_chr hj hk2 ?_)⟩⟩⟩
    rw [q2]
    refine ⟨fun e => ?_, fun e => ?_⟩
    · have h2 : s < F := Classical.byContradiction fun q => hm c (List.mem_cons_self ..) (e.symm.trans (if_neg q))
      rw [if_pos (show ch X F s = c from e)] at h
      have e6 : mI (sI μ 339 (z + 584) (nI 0)) 336 (z + 584) = nI s := (sI_o (by omega)).trans h6
      refine ⟨z + 584, rfl, hT.km, Or.inl rfl, hT.km, fun _ => ?_, fun q => absurd sI_e q⟩
      rw [e6]
      refine ⟨z + 584, rfl, hT.km, ?_⟩
      rw [nI_add, nI_add]
      have g : Bm z μ (sI (sI μ 339 (z + 584) (nI 0)) 336 (z + 584) (nI (s + 1))) P := ((Bm_sI (P := P) (Or.inr rfl)).tr (Bm_sI (P := P) (Or.inl rfl))).up (fun b q => q.elim id id)
      exact s_sl hj hF hT0 ht0 p (k + 1) (s + 1) _ q3 hk2 (by omega) (fun c q => hm c (List.mem_cons_of_mem _ q)) h2 ((hB.tr g).up (fun b q => q.elim id id)) sI_e ((sI_o (by omega)).trans sI_e) (fun ν r1 r2 r3 r4 => h ν r1 (fun q => (r2 q).trans (sI_A.trans sI_A)) r3 r4)
    · rw [if_neg (show ¬ ch X F s = c from e)] at h
      have e6 : mI (sI μ 339 (z + 584) (nI 1)) 336 (z + 584) = nI s := (sI_o (by omega)).trans h6
      have e9 : mI (sI μ 339 (z + 584) (nI 1)) 339 (z + 584) = nI 1 := sI_e
      refine ⟨z + 584, rfl, hT.km, Or.inr rfl, hT.km, fun q => absurd (e9.symm.trans q) (by decide), fun _ => ?_⟩
      rw [e6]
      refine ⟨z + 584, rfl, hT.km, ?_⟩
      rw [nI_add, nI_add, Nat.add_zero]
      have g : Bm z μ (sI (sI μ 339 (z + 584) (nI 1)) 336 (z + 584) (nI s)) P := ((Bm_sI (P := P) (Or.inr rfl)).tr (Bm_sI (P := P) (Or.inl rfl))).up (fun b q => q.elim id id)
      have f9 : mI (sI (sI μ 339 (z + 584) (nI 1)) 336 (z + 584) (nI s)) 339 (z + 584) = nI 1 := (sI_o (by omega)).trans sI_e
      have fin : Q (sI (sI μ 339 (z + 584) (nI 1)) 336 (z + 584) (nI s)) := h _ ((hB.tr g).up (fun b q => q.elim id id)) (fun q => sI_A.trans sI_A) sI_e f9
      exact ⟨gS G j, rfl, j, rfl, hj, g_len hj ⟨fun _ => fin, fun _ => ⟨hT.km, fun _ => fin, fun q => absurd (f9.symm.trans q) (by decide)⟩⟩⟩
theorem s_says {Q : mmT → Prop} (hj : j < 48) (hc : cn (gByt.getD j []) = 0) (hm : ∀ c, c ∈ gByt.getD j [] → c ≠ -1) (hF : F ≤ 60) (hT : ST μ z) (ht : Ty μ z X F) (hs : s ≤ F) (h6 : mI μ 336 (z + 584) = nI s) (h9 : mI μ 339 (z + 584) = nI 0)
    (h : ∀ ν, Bm z μ ν (fun _ => False) → mI ν 336 (z + 584) = nI (pm X F (gByt.getD j []) s 0 0 0).1 → mI ν 339 (z + 584) = (if (pm X F (gByt.getD j []) s 0 0 0).2.1 = true then nI 0 else nI 1) → Q ν) : w_X11_says G μ (z + 584) (some (gS G j)) Q := by
  unfold w_X11_says
  exact ⟨_, s_sl (P := fun _ => False) hj hF hT ht (gByt.getD j []) 0 s μ rfl (Nat.zero_le _) hc hm hs Bm_rf h6 h9 (fun ν a _ b c => h ν a b c)⟩
theorem s_saysW {Q : mmT → Prop} (hj : j < 48) (hT : ST μ z) (h9 : mI μ 339 (z + 584) = nI 1) (h : Q μ) : w_X11_says G μ (z + 584) (some (gS G j)) Q := by
  unfold w_X11_says
  exact ⟨1, gS G j, rfl, j, rfl, hj, g_len hj ⟨fun _ => h, fun _ => ⟨hT.km, fun _ => h, fun q => absurd (h9.symm.trans q) (by decide)⟩⟩⟩
theorem s_b87 {Q : mmT → Prop} {d wr : Nat} (hT : ST μ z) (h8 : mI μ 338 (z + 584) = nI c) (hc : c < 59) (hd : d < 3) (hw : wr ≤ 1)
    (h : ∀ ν, Bm z μ ν (fun q => q = 3 * c + d) → mI ν 336 (z + 584) = mI μ 336 (z + 584) → mI ν 339 (z + 584) = nI wr → mA ν (z + 591) (3 * c + d) = x → Q ν) : w_X11_number_b87 G (z + 584) Q (nI d) x (some (z + 584)) (nI wr) μ := by
  have e8 : mI (sI μ 339 (z + 584) (nI wr)) 338 (z + 584) = nI c := (sI_o (by omega)).trans h8
  have g : Bm z μ (sA (sI μ 339 (z + 584) (nI wr)) (z + 591) (3 * c + d) x) (fun q => q = 3 * c + d) := ((Bm_sI (P := fun q => q = 3 * c + d) (Or.inr rfl)).tr Bm_sA).up (fun b q => q.elim id id)
  refine ⟨z + 584, rfl, hT.km, ?_, hT.km, z + 591, hT.to.1, hT.to.2.1, ?_⟩
  · have : wr = 0 ∨ wr = 1 := by omega
    rcases this with q | q
    · subst q; exact Or.inl rfl
    · subst q; exact Or.inr rfl
  rw [e8, pk_mul, nI_add, cl (by omega)]
  exact ⟨vp_th hT.to.2.2 (by omega) (by decide), h _ g (sA_I.trans (sI_o (by omega))) (sA_I.trans sI_e) sA_e⟩
theorem s_nl {Q : mmT → Prop} {d : Nat} (hF : F ≤ 60) (hX : ∀ i, i < F → X i ≤ 126) (hT0 : ST μ0 z) (ht0 : Ty μ0 z X F) (h80 : mI μ0 338 (z + 584) = nI c) (hc : c < 59) (hd : d < 3) : ∀ (k w s : Nat) (n : Int32) (μ : mmT), w + k ≤ 3 → s ≤ F → Bm z μ0 μ (fun q => q = 3 * c + d) → mI μ 336 (z + 584) = nI s → mI μ 339 (z + 584) = nI 0 →
    (∀ ν, Bm z μ0 ν (fun q => q = 3 * c + d) → mI ν 336 (z + 584) = nI (dr X F k s n).1 → mI ν 339 (z + 584) = (if w + ((dr X F k s n).1 - s) = 0 then nI 1 else nI 0) → mA ν (z + 591) (3 * c + d) = (dr X F k s n).2 → Q ν) → w_X11_number_l11 G (z + 584) Q (k + 1) (nI d) (nI (w + k)) n (nI w) μ := by
  have fin : ∀ (w s : Nat) (n : Int32) (μ : mmT), w ≤ 3 → s ≤ F → Bm z μ0 μ (fun q => q = 3 * c + d) → mI μ 336 (z + 584) = nI s → mI μ 339 (z + 584) = nI 0 →
    (∀ ν, Bm z μ0 ν (fun q => q = 3 * c + d) → mI ν 336 (z + 584) = nI s → mI ν 339 (z + 584) = (if w = 0 then nI 1 else nI 0) → mA ν (z + 591) (3 * c + d) = n → Q ν) → w_X11_number_b69 G (z + 584) Q (nI d) n (nI w) μ := by
    intro w s n μ hw hs hB h6 h9 h
    have hT := hT0.ag hB.1
    have h8 : mI μ 338 (z + 584) = nI c := (hB.2.1 _ (by decide) (by decide)).trans h80
    refine ⟨hT.km, fun q => absurd h9 q, fun _ => ⟨fun q => ?_, fun q => ?_⟩⟩
    · have w0 : ¬ w = 0 := fun e => q (by rw [e]; rfl)
      refine s_b87 (wr := 0) hT h8 hc hd (by decide) (fun ν g r6 r9 rA => h ν ((hB.tr g).up (fun b q => q.elim id id)) (r6.trans h6) ?_ rA)
      rw [r9, if_neg w0]
    · have w0 : w = 0 := Classical.byContradiction fun e => by
        have := (nI_eq (b := 0) (by omega) (by decide)).mp q
        omega
      refine s_b87 (wr := 1) hT h8 hc hd (by decide) (fun ν g r6 r9 rA => h ν ((hB.tr g).up (fun b q => q.elim id id)) (r6.trans h6) ?_ rA)
      rw [r9, if_pos w0]
  intro k
  induction k with
  | zero =>
    intro w s n μ hw hs hB h6 h9 h
    have hT := hT0.ag hB.1
    refine ⟨hT.km, fun q => absurd h9 q, fun _ => ⟨fun _ => fin w s n μ (by omega) hs hB h6 h9 (fun ν r1 r2 r3 r4 => h ν r1 r2 ?_ r4), fun e => absurd (nI_le (by omega) (by omega)) e⟩⟩
    rw [r3, show w + ((dr X F 0 s n).1 - s) = w from by show w + (s - s) = w; omega]
  | succ k ih =>
    intro w s n μ hw hs hB h6 h9 h
    have hT := hT0.ag hB.1
    have ht := ht0.bm hB
    have ed : dr X F (k + 1) s n = if dg X F s = true then dr X F k (s + 1) (nI 10 * n + nI (X s) - nI 48) else (s, n) := rfl
    rw [ed] at h
    have no : ¬ dg X F s = true → w_X11_number_b69 G (z + 584) Q (nI d) n (nI w) μ := fun q => by
      rw [if_neg q] at h
      exact fin w s n μ (by omega) hs hB h6 h9 (fun ν r1 r2 r3 r4 => h ν r1 r2 (by rw [r3, show w + ((s, n).1 - s) = w from by show w + (s - s) = w; omega]) r4)
    refine ⟨hT.km, fun q => absurd h9 q, fun _ => ⟨fun e => absurd ((nI_leI (by omega) (by omega)).mp e) (by omega), fun _ => s_here hT ht hF h6 hs (by decide) (s_X11_in (fun c1 c2 => ⟨fun q => absurd q (by decide), fun _ => s_here hT ht hF h6 hs (by decide) ?_⟩) (fun c => ⟨fun _ => no (fun q => ?_), fun q => absurd rfl q⟩))⟩⟩
    · have h2 : s < F := Classical.byContradiction fun q => by
        rw [show ch X F (s + 0) = -1 from if_neg q] at c1
        exact absurd c1 (by decide)
      have hx := hX s h2
      rw [show ch X F (s + 0) = nI (X s) from if_pos h2] at c1 c2 ⊢
      have dgt : dg X F s = true := decide_eq_true ⟨h2, (nI_leI (by omega) (by omega)).mp c1, (nI_leI (by omega) (by omega)).mp c2⟩
      rw [if_pos dgt] at h
      have hb := dr_b (X := X) k (s + 1) (nI 10 * n + nI (X s) - nI 48) h2
      rw [h6, nI_add, nI_add, show w + (k + 1) = w + 1 + k by omega]
      refine ih (w + 1) (s + 1) _ _ (by omega) h2 ((hB.tr (Bm_sI (P := fun q => q = 3 * c + d) (Or.inl rfl))).up (fun b q => q.elim id id)) sI_e ((sI_o (by omega)).trans h9) (fun ν r1 r2 r3 r4 => h ν r1 r2 ?_ r4)
      rw [r3, if_neg (by omega), if_neg (by omega)]
    · have q2 := of_decide_eq_true q
      have hx := hX s q2.1
      refine c ?_
      rw [show ch X F (s + 0) = nI (X s) from if_pos q2.1]
      exact ⟨nI_le (by omega) (by omega), nI_le (by omega) (by omega)⟩
end SAYS

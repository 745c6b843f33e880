/-! TAKING BACK, SAVING, RESTORING -/
section KEEP
variable {G : mgT} {μ ν ρ σ : mmT} {z a b c c2 m i F nx ct t o L : Nat} {S S2 : cT} {v w v0 : Nat → Nat} {V : Nat → Nat → Nat} {R : rT} {B B2 : Nat} {x : Int32}
/-- a class's undo -/
theorem t_undo {Q : Int32 → mmT → Prop} {X : String → mmT → Prop} (hT : ST μ z) (hI : ICv μ z v ct V) (hl : ∀ k, k < ct → Lim (V k)) (hc : ct ≤ 8)
    (h1 : 1 ≤ ct → ∀ ν, Ag z μ ν (Pc z) → ICv ν z (V (ct - 1)) (ct - 1) V → Q (nI (ct - 1)) ν) (h0 : ct = 0 → X "java/util/NoSuchElementException" μ) : w_X10_undo G μ z Q X := by
  obtain ⟨i1, i2, i3, nx, i4⟩ := hI
  unfold w_X10_undo
  rw [hT.z5]
  refine ⟨hT.kz, _, rfl, hT.h, fun q => ?_, fun q => ?_⟩
  · have c1 : 1 ≤ ct := by
      have : ct ≠ 0 := fun e => q (by rw [i4.1.2.1, e]; rfl)
      omega
    rw [hT.z1]
    refine t_takeBack hT i4 c1 i1.f (hl _ (by omega)) (fun ν g s h => ?_)
    have hT2 := hT.ag g
    refine ⟨hT2.kz, _, hT2.z5, hT2.h, ?_⟩
    rw [h.1.2.1]
    exact h1 c1 ν (g.up (fun b hb => by show _ ∨ _; omega)) ⟨s, Sf_ag i2 g (fun b h1 h2 q => by omega), Sf_ag i3 g (fun b h1 h2 q => by omega), _, h⟩
  · rw [i4.1.2.1] at q
    exact h0 (nI_inj (by omega) (by decide) q)
theorem t_save {Q : Int32 → mmT → Prop} (hT : ST μ z) (h1 : St μ (z + 1) v) (h4 : Sf μ (z + 130)) (l : Lim v) (hq : ∀ ν, Ag z μ ν (fun b => b = z ∨ (z + 130 ≤ b ∧ b < z + 173)) → mI ν 295 z = nI 1 → mI ν 296 z = mI μ 296 z → mI ν 297 z = mI μ 297 z → St ν (z + 130) v → Q (nI (v 2)) ν) : w_X10_save G μ z Q := by
  unfold w_X10_save
  refine ⟨hT.kz, _, hT.z4, hT.s4.1, ?_⟩
  rw [hT.z1]
  refine w_copy (z := z) R0_4 hT.s4 hT.s1 (by omega) h4 h1 l (fun ν g s => ?_)
  have hT2 := hT.ag g
  have g2 : Ag z ν (sI ν 295 z (nI 1)) (fun b => b = z) := Ag_sI
  have hT3 := hT2.ag g2
  refine ⟨hT2.kz, _, hT3.z1, hT3.s1.1, ?_⟩
  have e2 : mI (sI ν 295 z (nI 1)) 230 (z + 1) = nI (v 2) := by
    have : mI (sI ν 295 z (nI 1)) 230 (z + 1) = mI μ 230 (z + 1) := (g2.I (by omega)).trans (g.I (by omega))
    rw [this]
    obtain ⟨S, e1, r1⟩ := h1
    exact (e1.1 230 0 (by decide)).trans r1.1.2.2.1
  rw [e2]
  exact hq _ ((g.tr g2).up (fun b hb => by omega)) sI_e ((sI_o (by omega)).trans (g.I (by omega))) ((sI_o (by omega)).trans (g.I (by omega))) (St_ag s g2 (fun b h1 h2 q => by omega))
theorem t_restore {Q : Int32 → mmT → Prop} {X : String → mmT → Prop} (hT : ST μ z) (hI : ICv μ z v ct V) (hS : ICs μ z R) (hr : rH R ≤ 1) (l : rH R = 1 → Lim (rV R))
    (h1 : rH R = 1 → ∀ ν, Ag z μ ν (Pc z) → ICv ν z (rV R) 0 V → Q (nI (rV R 2)) ν) (h0 : rH R = 0 → X "java/lang/IllegalStateException" μ) : w_X10_restore G μ z Q X := by
  obtain ⟨i1, i2, i3, nx, i4⟩ := hI
  obtain ⟨e1, f1, s1⟩ := hS
  unfold w_X10_restore
  rw [e1, hT.z1, hT.z4]
  refine ⟨hT.kz, fun q => ?_, fun q => h0 (nI_inj (by omega) (by decide) q)⟩
  have r1 : rH R = 1 := by
    have : rH R ≠ 0 := fun e => q (by rw [e]; rfl)
    omega
  refine ⟨_, rfl, hT.s1.1, w_copy (z := z) R0_1 hT.s1 hT.s4 (by omega) i1.f (s1 r1) (l r1) (fun ν g s => ?_)⟩
  have hT2 := hT.ag g
  refine ⟨hT2.kz, _, hT2.z5, hT2.h, ?_⟩
  have g2 : Ag z ν (sI ν 98 (z + 173) (nI 0)) (fun b => b = z + 173) := Ag_sI
  have hT3 := hT2.ag g2
  refine ⟨_, hT3.z1, hT3.s1.1, ?_⟩
  have s2 := St_ag s g2 (fun b h1 h2 q => by omega)
  have e2 : mI (sI ν 98 (z + 173) (nI 0)) 230 (z + 1) = nI (rV R 2) := by
    obtain ⟨S, e1, r1⟩ := s2
    exact (e1.1 230 0 (by decide)).trans r1.1.2.2.1
  rw [e2]
  refine h1 r1 _ ((g.tr g2).up (fun b hb => by show _ ∨ _; omega)) ⟨s2, Sf_ag (Sf_ag i2 g (fun b h1 h2 q => by omega)) g2 (fun b h1 h2 q => by omega), Sf_ag (Sf_ag i3 g (fun b h1 h2 q => by omega)) g2 (fun b h1 h2 q => by omega), nx, ⟨(sI_o (by omega)).trans ((g.I (by omega)).trans i4.1.1), sI_e, i4.1.2.2.1, Nat.zero_le _⟩, fun i hi => ?_⟩
  obtain ⟨S', t1, t2, -⟩ := i4.2 i hi
  exact ⟨S', BT_ag (BT_ag t1 g (fun b h1 h2 q => by omega)) g2 (fun b h1 h2 q => by omega), t2, fun k hk => absurd hk (Nat.not_lt_zero _)⟩
/-! the reference's -/
theorem vp_th {N : Nat} {a : Nat} (h : mN μ a = N) (hi : i < N) (hN : N < 2 ^ 31) : vp_in (nI i) (mN μ a) := by
  rw [h]
  exact vp_in_nI hi hN
end KEEP

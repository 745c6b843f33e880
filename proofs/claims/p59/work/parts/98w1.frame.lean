/-! WHAT LIES BELOW STAYS -/
section FRAME
variable {G : mgT} {μ ν ρ : mmT} {z a b c m i F n k p ct lo lo2 : Nat} {v w : Nat → Nat} {B : Nat} {S : cT} {V : Nat → Nat → Nat} {R : rT} {P P2 : Nat → Prop}
theorem SS_fr (h : SS μ a) (g : Fr lo μ ν) (hl : a + 43 ≤ lo) : SS ν a := by
  obtain ⟨h0, h1, h2, h3, h4, h5, h6⟩ := h
  refine ⟨?_, ?_, ?_, ?_, fun i hi => ?_, fun i hi => ?_, fun i hi => ?_⟩
  · rw [g.kk (by omega)]; exact h0
  · rw [g.rr (by omega), g.rr (by omega), g.rr (by omega), g.rr (by omega)]; exact h1
  · rw [g.kk (by omega), g.kk (by omega), g.kk (by omega), g.kk (by omega)]; exact h2
  · rw [g.nn (by omega), g.nn (by omega), g.nn (by omega)]; exact h3
  · rw [g.bb (by omega), g.kk (by omega), g.rr (by omega), g.rr (by omega), g.kk (by omega), g.kk (by omega), g.nn (by omega), g.nn (by omega)]; exact h4 i hi
  · rw [g.bb (by omega), g.kk (by omega)]; exact h5 i hi
  · rw [g.kk (by omega)]; exact h6 i hi
theorem BT_fr (h : BT μ a S) (g : Fr lo μ ν) (hl : a + 43 ≤ lo) : BT ν a S :=
  ⟨fun F k hk => (g.ii (by omega)).trans (h.1 F k hk), fun k i hk => (g.aa (by omega)).trans (h.2.1 k i hk), fun i => (g.bb (by omega)).trans (h.2.2 i)⟩
theorem St_fr (h : St μ a v) (g : Fr lo μ ν) (hl : a + 43 ≤ lo) : St ν a v := h.elim (fun S q => ⟨S, BT_fr q.1 g hl, q.2⟩)
theorem Sf_fr (h : Sf μ a) (g : Fr lo μ ν) (hl : a + 43 ≤ lo) : Sf ν a := h.elim (fun S q => ⟨S, BT_fr q.1 g hl, q.2⟩)
theorem HC_fr {nx : Nat} (h : HC μ z nx ct V) (g : Fr lo μ ν) (hl : z + 519 ≤ lo) : HC ν z nx ct V := by
  obtain ⟨h1, h2⟩ := h
  refine ⟨?_, fun i hi => ?_⟩
  · rw [g.ii (by omega), g.ii (by omega)]; exact h1
  · obtain ⟨S, q1, q2⟩ := h2 i hi
    exact ⟨S, BT_fr q1 g (by omega), q2⟩
theorem ICv_fr (h : ICv μ z v ct V) (g : Fr lo μ ν) (hl : z + 519 ≤ lo) : ICv ν z v ct V :=
  ⟨St_fr h.1 g (by omega), Sf_fr h.2.1 g (by omega), Sf_fr h.2.2.1 g (by omega), h.2.2.2.imp fun _ q => HC_fr q g hl⟩
theorem ICr_fr (h : ICr μ z R) (g : Fr lo μ ν) (hl : z + 584 ≤ lo) : ICr ν z R := by
  obtain ⟨⟨a1, a2, a3⟩, ⟨b1, b2⟩, ⟨c1, c2⟩, d1, d2, d3⟩ := h
  exact ⟨⟨(g.ii (by omega)).trans a1, Sf_fr a2 g (by omega), fun q => St_fr (a3 q) g (by omega)⟩, ⟨(g.ii (by omega)).trans b1, fun i hi => (g.aa (by omega)).trans (b2 i hi)⟩, ⟨(g.ii (by omega)).trans c1, (g.ii (by omega)).trans c2⟩, (g.ii (by omega)).trans d1, (g.ii (by omega)).trans d2, fun i hi => (g.aa (by omega)).trans (d3 i hi)⟩
theorem ST_fr (h : ST μ z) (g : Fr lo μ ν) (hl : z + 584 ≤ lo) : ST ν z := by
  obtain ⟨⟨h1, h2, h3, h4, h5⟩, hZ, hH, hT, hO⟩ := h
  refine ⟨⟨SS_fr h1 g (by omega), SS_fr h2 g (by omega), SS_fr h3 g (by omega), SS_fr h4 g (by omega), fun i hi => SS_fr (h5 i hi) g (by omega)⟩, ?_, ?_, ?_, ?_⟩
  · rw [g.kk (by omega), g.rr (by omega), g.rr (by omega), g.rr (by omega), g.rr (by omega), g.rr (by omega), g.rr (by omega), g.rr (by omega)]; exact hZ
  · obtain ⟨q1, q2, q3, q4, q5⟩ := hH
    exact ⟨(g.kk (by omega)).trans q1, (g.rr (by omega)).trans q2, (g.kk (by omega)).trans q3, (g.nn (by omega)).trans q4, fun i hi => (g.bb (by omega)).trans (q5 i hi)⟩
  · obtain ⟨q1, q2, q3, q4, q5, q6, q7, q8⟩ := hT
    exact ⟨(g.kk (by omega)).trans q1, (g.rr (by omega)).trans q2, (g.rr (by omega)).trans q3, (g.kk (by omega)).trans q4, (g.nn (by omega)).trans q5, (g.kk (by omega)).trans q6, (g.nn (by omega)).trans q7, fun i hi => ⟨(g.bb (by omega)).trans (q8 i hi).1, (g.kk (by omega)).trans (q8 i hi).2⟩⟩
  · obtain ⟨q1, q2, q3, q4⟩ := hO
    exact ⟨(g.kk (by omega)).trans q1, (g.rr (by omega)).trans q2, (g.kk (by omega)).trans q3, (g.nn (by omega)).trans q4⟩
theorem Iv_fr (h : Iv μ z B c v ct V) (g : Fr lo μ ν) (hl : z + 584 ≤ lo) : Iv ν z B c v ct V :=
  ⟨ST_fr h.1 g hl, ICv_fr h.2.1 g (by omega), h.2.2.1, h.2.2.2.imp fun _ q => ⟨ICr_fr q.1 g hl, q.2⟩⟩
/-! but at P all stays -/
def Fp (P : Nat → Prop) (μ ν : mmT) : Prop := ∀ b, ¬ P b → (mK ν b = mK μ b ∧ mN ν b = mN μ b) ∧ (∀ F, mI ν F b = mI μ F b) ∧ (∀ F, mR ν F b = mR μ F b) ∧ (∀ i, mA ν b i = mA μ b i) ∧ (∀ i, mB ν b i = mB μ b i) ∧ ∀ i, mL ν b i = mL μ b i
theorem Fp.kk (g : Fp P μ ν) (h : ¬ P b) : mK ν b = mK μ b := (g b h).1.1
theorem Fp.nn (g : Fp P μ ν) (h : ¬ P b) : mN ν b = mN μ b := (g b h).1.2
theorem Fp.ii (g : Fp P μ ν) (h : ¬ P b) : mI ν F b = mI μ F b := (g b h).2.1 F
theorem Fp.rr (g : Fp P μ ν) (h : ¬ P b) : mR ν F b = mR μ F b := (g b h).2.2.1 F
theorem Fp.aa (g : Fp P μ ν) (h : ¬ P b) : mA ν b i = mA μ b i := (g b h).2.2.2.1 i
theorem Fp_rf : Fp P μ μ := fun _ _ => ⟨⟨rfl, rfl⟩, fun _ => rfl, fun _ => rfl, fun _ => rfl, fun _ => rfl, fun _ => rfl⟩
theorem Fp.tr (h : Fp P μ ν) (h2 : Fp P2 ν ρ) : Fp (fun b => P b ∨ P2 b) μ ρ := fun b q => by
  obtain ⟨⟨a1, a2⟩, a3, a4, a5, a6, a7⟩ := h b (fun z => q (Or.inl z))
  obtain ⟨⟨b1, b2⟩, b3, b4, b5, b6, b7⟩ := h2 b (fun z => q (Or.inr z))
  exact ⟨⟨b1.trans a1, b2.trans a2⟩, fun F => (b3 F).trans (a3 F), fun F => (b4 F).trans (a4 F), fun F => (b5 F).trans (a5 F), fun F => (b6 F).trans (a6 F), fun F => (b7 F).trans (a7 F)⟩
theorem Fp.up (h : Fp P μ ν) (hP : ∀ b, P b → P2 b) : Fp P2 μ ν := fun b q => h b (fun z => q (hP b z))
theorem Fp_nA {j : Nat} : Fp (fun b => b = a) μ (nA μ a j n) := fun b q => ⟨⟨nA_K q, nA_N q⟩, fun _ => by rw [nA_I], fun _ => by rw [nA_R], fun _ => nA_A q, fun _ => nA_B q, fun _ => if_neg q⟩
theorem Fp_nO {ci : Nat} : Fp (fun b => b = a) μ (nO μ a ci) := fun b q => ⟨⟨nO_K q, by rw [nO_N]⟩, fun _ => nO_I q, fun _ => nO_R q, fun _ => by rw [nO_A], fun _ => by rw [nO_B], fun _ => rfl⟩
theorem Fp_sI {x : Int32} : Fp (fun b => b = a) μ (sI μ F a x) := fun b q => ⟨⟨rfl, rfl⟩, fun _ => sI_o (fun e => q e.2), fun _ => by rw [sI_R], fun _ => sI_A, fun _ => rfl, fun _ => rfl⟩
theorem Fp_sR {y : Option Nat} : Fp (fun b => b = a) μ (sR μ F a y) := fun b q => ⟨⟨rfl, rfl⟩, fun _ => by rw [sR_I], fun _ => sR_o (fun e => q e.2), fun _ => rfl, fun _ => rfl, fun _ => rfl⟩
theorem Fp_sA {x : Int32} : Fp (fun b => b = a) μ (sA μ a i x) := fun b q => ⟨⟨rfl, rfl⟩, fun _ => rfl, fun _ => rfl, fun _ => sA_o (fun e => q e.1), fun _ => rfl, fun _ => rfl⟩
theorem Fp_sX {f : Nat → Int32} : Fp (fun b => b = a) μ (sX μ f a m n) := fun b q => ⟨⟨rfl, rfl⟩, fun _ => rfl, fun _ => rfl, fun _ => if_neg (fun e => q e.1), fun _ => rfl, fun _ => rfl⟩
theorem Fp_nB : Fp (fun b => b = a) μ (nB μ a c) := fun b q => ⟨⟨if_neg q, if_neg q⟩, fun _ => rfl, fun _ => rfl, fun _ => if_neg q, fun _ => if_neg q, fun _ => if_neg q⟩
theorem Fp.fr (h : Fp P μ ν) (hP : ∀ b, P b → lo ≤ b) : Fr lo μ ν := fun b q => by
  obtain ⟨a1, a2, a3, a4, a5, -⟩ := h b (fun z => by have := hP b z; omega)
  exact ⟨a1, a2, a3, a4, a5⟩
theorem Fp.kp (h : Fp P μ ν) (hP : ∀ b, P b → z + 585 ≤ b) : Kp z μ ν := fun b q => by
  obtain ⟨a1, a2, a3, a4, a5, a6⟩ := h b (fun z => by have := hP b z; omega)
  exact ⟨a1.1, a1.2, a6⟩
theorem Iv.fp (h : Iv μ z B c v ct V) (g : Fp P μ ν) (hP : ∀ b, P b → z + 585 ≤ b) : Iv ν z B c v ct V := Iv_fr h (g.fr (lo := z + 585) hP) (by omega)
end FRAME

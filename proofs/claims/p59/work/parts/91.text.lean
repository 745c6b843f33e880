/-! THE LAW: A CHARACTER OF THE OUTPUT, A CHARACTER TYPED -/
section TEXT
variable {G : mgT} {μ ν ρ σ : mmT} {z a b c c2 m i F nx ct t o L q : Nat} {S S2 : cT} {v w v0 : Nat → Nat} {V : Nat → Nat → Nat} {R : rT} {B B2 : Nat} {x : Int32} {xs : Nat → Int32} {K : Option Nat → Option Nat → Option Nat → Option Nat → Int32 → Nat → mmT → Prop}
theorem sA_I {j : Nat} : mI (sA μ b j x) F c = mI μ F c := rfl
theorem and255 {n : Nat} (h : n < 256) : nI n &&& nI 255 = nI n := by
  rw [pk_andN (by omega) 8 (by decide), Nat.mod_eq_of_lt (by omega)]
/-! typing -/
def rTy (R : rT) (q : Nat) : rT := (R.1, (rF R + 1, fun j => if j = rF R then q else rX R j), R.2.2)
theorem t_type {Q : Int32 → mmT → Prop} {X : String → mmT → Prop} (hq : q < 65536) (hn : vp_nar .char (nI q) = nI q) (hT : ST μ z) (hI : ICt μ z R) (h60 : rF R ≤ 60)
    (h1 : 32 ≤ q → q ≤ 126 → rF R < 60 → ∀ ν, Ag z μ ν (fun b => b = z + 519 ∨ b = z + 520) → ICt ν z (rTy R q) → Q (nI (rF R + 1)) ν)
    (h2 : 32 ≤ q → q ≤ 126 → rF R = 60 → X "java/lang/IllegalStateException" μ) (h0 : ¬ (32 ≤ q ∧ q ≤ 126) → X "java/lang/IllegalArgumentException" μ) : w_X10_type G μ z (nI q) Q X := by
  obtain ⟨e1, et⟩ := hI
  unfold w_X10_type w_X10_type_b12 w_X7_append w_X7_append_b29
  refine pk_lt q 32 (fun c => h0 (by omega)) (fun c => pk_le q 126 (fun c2 => ⟨hT.kz, _, hT.z6, hT.t.1, ?_⟩) (fun c2 => h0 (by omega)))
  rw [e1]
  refine pk_lt (rF R) 60 (fun c3 => ⟨hT.t.1, fun c4 => absurd c4 (nI_ge c3 (by decide)), fun _ => ⟨_, hT.t.2.1, hT.t.2.2.2.1, vp_th hT.t.2.2.2.2.1 c3 (by decide), ?_⟩⟩) (fun c3 => h2 c c2 (by omega))
  have g : Ag z μ (sI (sA μ (z + 520) (nI (rF R)).toNatClampNeg (vp_nar .char (nI q))) 194 (z + 519) (mI (sA μ (z + 520) (nI (rF R)).toNatClampNeg (vp_nar .char (nI q))) 194 (z + 519) + nI 1)) (fun b => b = z + 519 ∨ b = z + 520) := (Ag_sA.tr Ag_sI).up (fun b h => h.elim Or.inr Or.inl)
  have e2 : mI (sI (sA μ (z + 520) (nI (rF R)).toNatClampNeg (vp_nar .char (nI q))) 194 (z + 519) (mI (sA μ (z + 520) (nI (rF R)).toNatClampNeg (vp_nar .char (nI q))) 194 (z + 519) + nI 1)) 194 (z + 519) = nI (rF R + 1) := by
    rw [sI_e]
    show mI μ 194 (z + 519) + nI 1 = _
    rw [e1, nI_add]
  have e3 : ∀ j, mA (sI (sA μ (z + 520) (nI (rF R)).toNatClampNeg (vp_nar .char (nI q))) 194 (z + 519) (mI (sA μ (z + 520) (nI (rF R)).toNatClampNeg (vp_nar .char (nI q))) 194 (z + 519) + nI 1)) (z + 520) j = if j = rF R then nI q else mA μ (z + 520) j := fun j => by
    rw [sI_A, hn, cl (by omega)]
    by_cases y : j = rF R
    · rw [if_pos y, y]
      exact sA_e
    · rw [if_neg y]
      exact sA_o (fun h => y h.2)
  generalize sI (sA μ (z + 520) (nI (rF R)).toNatClampNeg (vp_nar .char (nI q))) 194 (z + 519) (mI (sA μ (z + 520) (nI (rF R)).toNatClampNeg (vp_nar .char (nI q))) 194 (z + 519) + nI 1) = ν at *
  rw [e2]
  refine ⟨(hT.ag g).t.1, h1 c c2 c3 ν g ⟨e2, fun j hj => ?_⟩⟩
  rw [e3 j]
  show _ = nI (if j = rF R then q else rX R j)
  have hj2 : j < rF R + 1 := hj
  by_cases y : j = rF R
  · rw [if_pos y, if_pos y]
  · rw [if_neg y, if_neg y]
    exact et j (by omega)
theorem JR_ty (hJ : JR B c R) (h1 : 32 ≤ q) (h2 : q ≤ 126) (h : rF R < 60) : JR B c (rTy R q) := by
  refine ⟨hJ.1, hJ.2.1, h, fun j hj => ?_, hJ.2.2.2.2⟩
  show 32 ≤ (if j = rF R then q else rX R j) ∧ (if j = rF R then q else rX R j) ≤ 126
  have hj2 : j < rF R + 1 := hj
  by_cases y : j = rF R
  · rw [if_pos y]
    exact ⟨h1, h2⟩
  · rw [if_neg y]
    exact hJ.2.2.2.1 j (by omega)
end TEXT

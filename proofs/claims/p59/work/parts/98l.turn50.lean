/-! THE LAW: A SCRIPT IS RUN -/
section LAW50
variable {G : mgT} {μ ν ρ σ τ π : mmT} {z a b c c2 m i F nx ct t o L N : Nat} {S S2 : cT} {v w v0 : Nat → Nat} {V : Nat → Nat → Nat} {R R0 : rT} {B B2 : Nat} {x : Int32} {xs : Nat → Int32} {K : Option Nat → Option Nat → Option Nat → Option Nat → Int32 → Nat → mmT → Prop} {P : Nat → Prop}
def mRe (ν : mmT) (r : Nat → Nat → Option Nat) : mmT := (mK ν, mN ν, mI ν, r, mA ν, mB ν, mL ν, mD ν)
theorem Ap.agR (g : Ap z μ ν P) : Ag z μ (mRe ν (mR μ)) (fun b => b = z + 519 ∨ P b) :=
  ⟨⟨g.1.1, g.1.2.1, rfl⟩, fun b hb => ⟨fun F => (g.2.2.1 b (fun e => hb (Or.inl e)) (fun e => hb (Or.inr e))).1 F, fun i => congrFun (congrFun g.1.2.2.1 b) i, fun i => congrFun (congrFun g.1.2.2.2.1 b) i⟩, fun b _ i => congrFun (congrFun g.1.2.2.2.1 b) i, g.1.2.2.2.2⟩
/-- .. and behind the reference -/
theorem bN_ok0 {M : Nat} (h : N ≤ 11) (hb : B + 20000 < M) : B + 1300 * (N + 1) + 1300 < M := by
  have h3 : 1300 * (N + 1) ≤ 1300 * 12 := Nat.mul_le_mul_left 1300 (Nat.succ_le_succ h)
  generalize 1300 * (N + 1) = T at *
  have h4 : B + T + 1300 ≤ B + 1300 * 12 + 1300 := Nat.add_le_add_right (Nat.add_le_add_left h3 B) 1300
  exact Nat.lt_of_le_of_lt h4 (Nat.lt_of_le_of_lt (show B + 1300 * 12 + 1300 ≤ B + 20000 from by rw [Nat.add_assoc]; exact Nat.add_le_add_left (by decide) B) hb)
theorem bN_ok (h : N ≤ 11) (hb : B + 20000 < 2 ^ 26) : B + 1300 * (N + 1) + 1300 < 2 ^ 26 := bN_ok0 h hb
end LAW50

/-! .. ONE AFTER ANOTHER -/
section RUNS
variable {G : mgT} {μ ν ρ σ μ0 : mmT} {z m i j k F n o f g s d N q : Nat} {S S2 : cT} {v w v0 : Nat → Nat} {X : Nat → Nat} {a b a2 b2 x y : Int32} {B c : Nat} {P P2 : Nat → Prop}
def CsC (G : mgT) (μ : mmT) (z : Nat) (X : Nat → Nat) (F N : Nat) : Prop := mI μ 195 (z + 519) = nI (N + 1) ∧ ∀ j, j ≤ N → Cd G μ (z + (522 + j)) X F (sS X F j) (pk X F (sS X F j))
def cE (G : mgT) (z : Nat) (Xx : String → mmT → Prop) (x2 : Int32) (μ37 : mmT) : Prop := mK μ37 z = 10 ∧ ∃ a40, mR μ37 288 z = some a40 ∧ (mK μ37 a40 = 8 ∧ w_X8_copyFrom G μ37 a40 (mR μ37 289 z) (fun μ43 => mK μ43 z = 10 ∧ Xx "java/lang/IllegalStateException" (sI μ43 297 z x2)))
def cDn (X : Nat → Nat) (F N k d : Nat) (v w : Nat → Nat) : Prop := ∀ (G : mgT) (z : Nat) (ν : mmT) (S : cT) (Q : Int32 → mmT → Prop) (Xx : String → mmT → Prop), ST ν z → CsC G ν z X F N → Rel S v 4 16 → (∀ S', Rel S' w 4 16 → w_X10_runScript_l55 G z Q Xx 1 (nI (N + 1)) (CT ν (z + 1) S')) → w_X10_runScript_l55 G z Q Xx (d + 1) (nI k) (CT ν (z + 1) S)
def cFl (X : Nat → Nat) (F N k d q : Nat) (v w : Nat → Nat) : Prop := ∀ (G : mgT) (z : Nat) (ν : mmT) (S : cT) (Q : Int32 → mmT → Prop) (Xx : String → mmT → Prop), ST ν z → CsC G ν z X F N → Rel S v 4 16 → (∀ S', Rel S' w 4 16 → cE G z Xx (nI q) (CT ν (z + 1) S')) → w_X10_runScript_l55 G z Q Xx (d + 1) (nI k) (CT ν (z + 1) S)
theorem c_step {Q : Int32 → mmT → Prop} {Xx : String → mmT → Prop} (ok : okp X F (sS X F k) = true) (hs : sS X F k ≤ F) (hk : k ≤ N) (hN : N < 59) (hT : ST ν z) (hC : CsC G ν z X F N)
    (h : W8 (pk X F (sS X F k)) (vA X F (sS X F k)) (vB X F (sS X F k)) G (CT ν (z + 1) S) (z + 1) (fun u36 μ37 => (0 ≤ u36 → w_X10_runScript_l55 G z Q Xx d (nI k + nI 1) μ37) ∧ (¬ 0 ≤ u36 → cE G z Xx (nI k) μ37))) : w_X10_runScript_l55 G z Q Xx (d + 1) (nI k) (CT ν (z + 1) S) := by
  have hT2 : ST (CT ν (z + 1) S) z := hT.ag (Ag_CT R0_1)
  have e5 : mI (CT ν (z + 1) S) 195 (z + 519) = nI (N + 1) := (CT_Io (by omega)).trans hC.1
  have cd : Cd G (CT ν (z + 1) S) (z + (522 + k)) X F (sS X F k) (pk X F (sS X F k)) := by
    obtain ⟨c1, x, y, c2, c3⟩ := hC.2 k hk
    exact ⟨c1, x, y, (CT_Io (by omega)).trans c2, (CT_Io (by omega)).trans c3⟩
  generalize CT ν (z + 1) S = τ at *
  refine ⟨hT2.kz, z + 519, hT2.z6, hT2.t.1, ?_⟩
  rw [e5]
  refine ⟨fun e => absurd ((nI_leI (by omega) (by omega)).mp e) (by omega), fun _ => ⟨z + 521, hT2.t.2.2.1, hT2.t.2.2.2.2.2.1, vp_th hT2.t.2.2.2.2.2.2.1 (by omega) (by decide), z + 1, hT2.z1, hT2.s1.1, ?_⟩⟩
  rw [cl (by omega), (hT2.t.2.2.2.2.2.2.2 k (by omega)).1]
  exact t_pf ok hs (hT2.t.2.2.2.2.2.2.2 k (by omega)).2 hT2.s1.1 cd h
end RUNS

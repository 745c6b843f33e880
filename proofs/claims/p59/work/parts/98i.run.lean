/-! THE COMMANDS OF A SCRIPT ARE CARRIED OUT, BY BOTH -/
def W8 (g : Nat) (a b : Int32) : mgT → mmT → Nat → (Int32 → mmT → Prop) → Prop := match g with
  | 0 => fun G μ o Q => w_X8_openNest G μ o a b Q
  | 1 => fun G μ o Q => w_X8_hireCrow G μ o Q
  | 2 => fun G μ o Q => w_X8_post G μ o a b Q
  | 3 => fun G μ o Q => w_X8_handOver G μ o a Q
  | 4 => fun G μ o Q => w_X8_withdraw G μ o a Q
  | 5 => fun G μ o Q => w_X8_turnWind G μ o a Q
  | 6 => fun G μ o Q => w_X8_clearKeys G μ o a Q
  | 7 => fun G μ o Q => w_X8_pass G μ o (nI 1) Q
  | _ => fun G μ o Q => w_X8_pass G μ o a Q
section RUN
variable {G : mgT} {μ ν ρ σ μ0 : mmT} {z m i j k F n o f g s d N : Nat} {S S2 : cT} {v w v0 : Nat → Nat} {X : Nat → Nat} {a b a2 b2 x y : Int32} {B c : Nat} {P P2 : Nat → Prop}
theorem W8_e1 : W8 1 a b = fun G μ o Q => w_X8_hireCrow G μ o Q := rfl
theorem W8_1 : W8 1 a b = W8 1 a2 b2 := by rw [W8_e1, W8_e1]
theorem W8_e3 : W8 3 a b = fun G μ o Q => w_X8_handOver G μ o a Q := rfl
theorem W8_3 : W8 3 a b = W8 3 a b2 := by rw [W8_e3, W8_e3]
theorem W8_e4 : W8 4 a b = fun G μ o Q => w_X8_withdraw G μ o a Q := rfl
theorem W8_4 : W8 4 a b = W8 4 a b2 := by rw [W8_e4, W8_e4]
theorem W8_e5 : W8 5 a b = fun G μ o Q => w_X8_turnWind G μ o a Q := rfl
theorem W8_5 : W8 5 a b = W8 5 a b2 := by rw [W8_e5, W8_e5]
theorem W8_e6 : W8 6 a b = fun G μ o Q => w_X8_clearKeys G μ o a Q := rfl
theorem W8_6 : W8 6 a b = W8 6 a b2 := by rw [W8_e6, W8_e6]
theorem W8_e7 : W8 7 a b = fun G μ o Q => w_X8_pass G μ o (nI 1) Q := rfl
theorem W8_7 : W8 7 a b = W8 7 a2 b2 := by rw [W8_e7, W8_e7]
theorem W8_e8 : W8 8 a b = fun G μ o Q => w_X8_pass G μ o a Q := rfl
theorem W8_8 : W8 8 a b = W8 8 a b2 := by rw [W8_e8, W8_e8]
theorem W8_eq (hg : g < 9) (h1 : g ≠ 1 → g ≠ 7 → a = a2) (h2 : g = 0 ∨ g = 2 → b = b2) : W8 g a b = W8 g a2 b2 := by
  by_cases g1 : g = 1
  · rw [g1]; exact W8_1
  by_cases g7 : g = 7
  · rw [g7]; exact W8_7
  rw [h1 g1 g7]
  by_cases g0 : g = 0
  · rw [h2 (Or.inl g0)]
  by_cases g2 : g = 2
  · rw [h2 (Or.inr g2)]
  by_cases g3 : g = 3
  · rw [g3]; exact W8_3
  by_cases g4 : g = 4
  · rw [g4]; exact W8_4
  by_cases g5 : g = 5
  · rw [g5]; exact W8_5
  by_cases g6 : g = 6
  · rw [g6]; exact W8_6
  by_cases g8 : g = 8
  · rw [g8]; exact W8_8
  omega
theorem t_perform {Q : Int32 → mmT → Prop} {q : Nat} (hg : g < 9) (hk : mK μ q = 2) (ho : mK μ o = 8) (e1 : mR μ 32 q = some (gE G g)) (h : W8 g (mI μ 33 q) (mI μ 34 q) G μ o Q) : w_X8_perform G μ o (some q) Q := by
  unfold w_X8_perform w_Jx29ce0_ordinal_8abf5
  refine ⟨q, rfl, hk, gE G g, e1, g, rfl, hg, g, rfl, hg, ?_⟩
  have eo : ∀ g, g < 9 → gOrd.getD g 0 = nI g := by decide +kernel
  rw [eo g hg]
  refine ⟨vp_in_nI hg (by decide), ?_⟩
  rw [cl (by omega)]
  match g, hg, h with
  | 0, _, h => exact ⟨fun e => absurd e (by decide), fun _ => ⟨ho, h⟩, fun e => absurd e (by decide), fun e => absurd e (by decide), fun e => absurd e (by decide), fun e => absurd e (by decide), fun e => absurd e (by decide), fun e => absurd e (by decide), fun e => absurd e (by decide)⟩
  | 1, _, h => exact ⟨fun e => absurd e (by decide), fun e => absurd e (by decide), fun _ => ⟨ho, h⟩, fun e => absurd e (by decide), fun e => absurd e (by decide), fun e => absurd e (by decide), fun e => absurd e (by decide), fun e => absurd e (by decide), fun e => absurd e (by decide)⟩
  | 2, _, h => exact ⟨fun e => absurd e (by decide), fun e => absurd e (by decide), fun e => absurd e (by decide), fun _ => ⟨ho, h⟩, fun e => absurd e (by decide), fun e => absurd e (by decide), fun e => absurd e (by decide), fun e => absurd e (by decide), fun e => absurd e (by decide)⟩
  | 3, _, h => exact ⟨fun e => absurd e (by decide), fun e => absurd e (by decide), fun e => absurd e (by decide), fun e => absurd e (by decide), fun _ => ⟨ho, h⟩, fun e => absurd e (by decide), fun e => absurd e (by decide), fun e => absurd e (by decide), fun e => absurd e (by decide)⟩
  | 4, _, h => exact ⟨fun e => absurd e (by decide), fun e => absurd e (by decide), fun e => absurd e (by decide), fun e => absurd e (by decide), fun e => absurd e (by decide), fun _ => ⟨ho, h⟩, fun e => absurd e (by decide), fun e => absurd e (by decide), fun e => absurd e (by decide)⟩
  | 5, _, h => exact ⟨fun e => absurd e (by decide), fun e => absurd e (by decide), fun e => absurd e (by decide), fun e => absurd e (by decide), fun e => absurd e (by decide), fun e => absurd e (by decide), fun _ => ⟨ho, h⟩, fun e => absurd e (by decide), fun e => absurd e (by decide)⟩
  | 6, _, h => exact ⟨fun e => absurd e (by decide), fun e => absurd e (by decide), fun e => absurd e (by decide), fun e => absurd e (by decide), fun e => absurd e (by decide), fun e => absurd e (by decide), fun e => absurd e (by decide), fun _ => ⟨ho, h⟩, fun e => absurd e (by decide)⟩
  | 7, _, h => exact ⟨fun _ => ⟨ho, h⟩, fun e => absurd e (by decide), fun e => absurd e (by decide), fun e => absurd e (by decide), fun e => absurd e (by decide), fun e => absurd e (by decide), fun e => absurd e (by decide), fun e => absurd e (by decide), fun e => absurd e (by decide)⟩
  | 8, _, h => exact ⟨fun e => absurd e (by decide), fun e => absurd e (by decide), fun e => absurd e (by decide), fun e => absurd e (by decide), fun e => absurd e (by decide), fun e => absurd e (by decide), fun e => absurd e (by decide), fun e => absurd e (by decide), fun _ => ⟨ho, h⟩⟩
/-- the values of a command that starts at s -/
def vA (X : Nat → Nat) (F s : Nat) : Int32 := (pm X F (fp (pk X F s)) s 0 0 0).2.2.1
def vB (X : Nat → Nat) (F s : Nat) : Int32 := (pm X F (fp (pk X F s)) s 0 0 0).2.2.2
theorem cn_fp : ∀ f, f < 9 → (f ≠ 1 → f ≠ 7 → 1 ≤ cn (fp f)) ∧ (f = 0 ∨ f = 2 → 2 ≤ 0 + cn (fp f)) := by decide +kernel
theorem t_pf {Q : Int32 → mmT → Prop} {q : Nat} (ok : okp X F s = true) (hs : s ≤ F) (hk : mK μ q = 2) (ho : mK μ o = 8) (hc : Cd G μ q X F s (pk X F s)) (h : W8 (pk X F s) (vA X F s) (vB X F s) G μ o Q) : w_X8_perform G μ o (some q) Q := by
  have h9 := ((stp_b (X := X) hs).2.2 ok).2
  have ok2 : (pm X F (fp (pk X F s)) s 0 0 0).2.1 = true := by
    unfold okp at ok
    rw [if_neg (by omega)] at ok
    exact ok
  obtain ⟨c1, x, y, c2, c3⟩ := hc
  refine t_perform h9 hk ho c1 ?_
  rw [W8_eq (a2 := vA X F s) (b2 := vB X F s) h9 (fun n1 n7 => ?_) (fun h02 => ?_)]
  · exact h
  · rw [c2]
    exact (pm_v1 (fp (pk X F s)) s 0 0 0 x y (Or.inl ⟨rfl, (cn_fp _ h9).1 n1 n7⟩) ok2).symm
  · rw [c3]
    exact (pm_v2 (fp (pk X F s)) s 0 0 0 x y (Or.inl ⟨by decide, (cn_fp _ h9).2 h02⟩) ok2).symm
end RUN

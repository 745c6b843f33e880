/-! THE LAW'S TURNS -/
section LAWT
variable {G : mgT} {μ ν ρ σ : mmT} {z a b c c2 m i F nx ct : Nat} {S S2 : cT} {v w v0 : Nat → Nat} {V : Nat → Nat → Nat} {R : rT} {P P2 : Nat → Prop} {B B2 N : Nat}
theorem sL_e {x : Int64} : mL (sL μ b i x) b i = x := if_pos ⟨rfl, rfl⟩
theorem sL_e0 {x : Int64} : mL (sL μ b (nI 0).toNatClampNeg x) b 0 = x := by
  have e : (nI 0).toNatClampNeg = 0 := cl (by decide)
  rw [e]
  exact sL_e
theorem sD_e {x : UInt64} : mD (sD μ b i x) b i = x := if_pos ⟨rfl, rfl⟩
theorem sD_e0 {x : UInt64} : mD (sD μ b (nI 0).toNatClampNeg x) b 0 = x := by
  have e : (nI 0).toNatClampNeg = 0 := cl (by decide)
  rw [e]
  exact sD_e
theorem lg_self {u : Int64} : lg_cmp u u = 0 := by
  unfold lg_cmp
  rw [if_neg (fun h : u > u => Int64.lt_irrefl h), if_pos rfl]
/-- two answers are compared -/
theorem cmp_ok {K : mmT → Prop} {k : Int32} {u : Int64} (hT : ST ρ z) (h3 : mI ρ 320 (z + 584) = k) (hL : k = 0 → mL ρ (z + 593) 0 = u) (hK : K ρ) :
    mK ρ (z + 584) = 11 ∧ w_X11_thrown G ρ (z + 584) (fun u21 => (u21 = k → (¬ k = 0 → K ρ) ∧ (k = 0 → ∃ a24, some (z + 593) = some a24 ∧ (mK ρ a24 = 35 ∧ (vp_in (nI 0) (mN ρ a24) ∧ (lg_cmp (mL ρ a24 (nI 0).toNatClampNeg) u = 0 → K ρ) ∧ (¬ lg_cmp (mL ρ a24 (nI 0).toNatClampNeg) u = 0 → False))))) ∧ (¬ u21 = k → False)) := by
  refine ⟨hT.km, hT.km, fun _ => ⟨fun _ => hK, fun k0 => ⟨z + 593, rfl, hT.l.1, ?_, fun _ => hK, fun q => q ?_⟩⟩, fun q => q h3⟩
  · rw [hT.l.2.1]
    exact vp_in_nI (by decide) (by decide)
  · rw [show (nI 0).toNatClampNeg = 0 from cl (by decide), hL k0]
    exact lg_self
theorem lvp (hT : ST μ z) : vp_in (nI 0) (mN μ (z + 593)) := by
  rw [hT.l.2.1]
  exact vp_in_nI (by decide) (by decide)
theorem dvp (hT : ST μ z) : vp_in (nI 0) (mN μ (z + 594)) := by
  rw [hT.l.2.2.2]
  exact vp_in_nI (by decide) (by decide)
/-- behind a change: what both say afterwards -/
theorem ok_chgF (hT : ST μ z) (hR : ICr μ z R) (hMr : IMr μ z R) (hM : IMv μ z v ct V) (g : Ag z μ ν (Pc z)) :
    ST ν z ∧ ICr ν z R ∧ IMr ν z R ∧ IMv ν z v ct V :=
  ⟨hT.ag g, ICr_ag hR g (fun b hb q => by rcases q with q | q <;> omega), IMr_ag hMr g (fun F _ _ => g.I (fun q => by rcases q with q | q <;> omega)) (fun b hb q => by rcases q with q | q <;> omega), IMv_ag hM g (g.I (fun q => by rcases q with q | q <;> omega)) (fun b hb q => by rcases q with q | q <;> omega)⟩
theorem ok_chg (hT : ST μ z) (hR : ICr μ z R) (hMr : IMr μ z R) (hM : IMv μ z v ct V) (g : Ag z μ ν (Pc z)) {x : Int64} {j : Nat} :
    ST (sL ν (z + 593) j x) z ∧ ICr (sL ν (z + 593) j x) z R ∧ IMr (sL ν (z + 593) j x) z R ∧ IMv (sL ν (z + 593) j x) z v ct V := by
  obtain ⟨q1, q2, q3, q4⟩ := ok_chgF hT hR hMr hM g
  exact ⟨q1, q2, q3, q4⟩
theorem ok_end (hT : ST ν z) (hI : ICv ν z w c V) (hR : ICr ν z R) (hMr : IMr ν z R) (g : Ag z ν ρ (Pm z)) (hf : ∀ F, 327 ≤ F → F ≤ 334 → mI ρ F (z + 584) = mI ν F (z + 584)) (hM : IMv ρ z w c V) (hV : JV B c2 w c V) (hJ : JR B c2 R) : Ok ρ z B c2 :=
  ⟨hT.ag g, w, c, V, R, ⟨ICv_ag hI g (fun b hb q => by rcases q with q | q | q | q <;> omega), ICr_ag hR g (fun b hb q => by rcases q with q | q | q | q <;> omega)⟩, ⟨hM, IMr_ag hMr g hf (fun b hb q => by rcases q with q | q | q | q <;> omega)⟩, hV, hJ⟩
/-- what the turn needs to hand on -/
abbrev Kk (K : mmT → Prop) (z B c : Nat) : Prop := ∀ ρ, Ok ρ z B c → K ρ
theorem bcD {K : mmT → Prop} {W : mgT → mmT → Nat → (Int32 → mmT → Prop) → Prop} {r : Nat} (hW : ∀ G μ m Q, MS μ m → Q (nI 0) (sI (VT μ m w) 335 m (nI r)) → W G (VT μ m v) m Q) (hT : ST μ z) (hR : ICr μ z R) (hMr : IMr μ z R) (hM : IMv μ z v ct V) (hV : JV B c v ct V) (hJ : JR B c R) (hw : JB (B + 1300) (c + 1) w)
    (kk : Kk K z (B + 20000) (c + 12)) (g : Ag z μ ν (Pc z)) (i1 : ICv ν z w (ctP ct) (vP ct V v)) : ∃ a15, some (z + 584) = some a15 ∧ (mK (sL ν (z + 593) (nI 0).toNatClampNeg (nI r).toInt64) a15 = 11 ∧ (mK (sL ν (z + 593) (nI 0).toNatClampNeg (nI r).toInt64) a15 = 11 ∧ w_X11_remembersAll G (sL ν (z + 593) (nI 0).toNatClampNeg (nI r).toInt64) a15 (fun μ2 => mK μ2 a15 = 11 ∧ W G μ2 a15 (fun u4 μ5 => mK μ5 a15 = 11 ∧ w_X11_ends G μ5 a15 u4 (fun u18 μ19 => mK μ19 a15 = 11 ∧ w_X11_thrown G μ19 a15 (fun u21 => (u21 = nI 0 → (¬ nI 0 = 0 → K μ19) ∧ (nI 0 = 0 → ∃ a24, some (z + 593) = some a24 ∧ (mK μ19 a24 = 35 ∧ (vp_in (nI 0) (mN μ19 a24) ∧ (lg_cmp (mL μ19 a24 (nI 0).toNatClampNeg) u18.toInt64 = 0 → K μ19) ∧ (¬ lg_cmp (mL μ19 a24 (nI 0).toNatClampNeg) u18.toInt64 = 0 → False))))) ∧ (¬ u21 = nI 0 → False))))))) := by
  obtain ⟨q1, q2, q3, q4⟩ := ok_chg (x := (nI r).toInt64) (j := (nI 0).toNatClampNeg) hT hR hMr hM g
  have i2 : ICv (sL ν (z + 593) (nI 0).toNatClampNeg (nI r).toInt64) z w (ctP ct) (vP ct V v) := i1
  have eL : mL (sL ν (z + 593) (nI 0).toNatClampNeg (nI r).toInt64) (z + 593) 0 = (nI r).toInt64 := sL_e0
  generalize sL ν (z + 593) (nI 0).toNatClampNeg (nI r).toInt64 = σ at *
  refine ⟨z + 584, rfl, q1.km, s_opD hW q1 q4 hV.2.1 (fun ρ g2 hf h3 hM2 => cmp_ok (q1.ag g2) h3 (fun _ => ?_) (kk ρ (ok_end q1 i2 q2 q3 g2 hf hM2 (JV_mono (JV_push hV (Nat.le_add_right _ _) (Nat.le_add_right _ _) hw) (by omega) (by omega)) (JR_mono hJ (by omega) (by omega)))))⟩
  rw [g2.L]
  exact eL
theorem bcF {K : mmT → Prop} {W : mgT → mmT → Nat → (Int32 → mmT → Prop) → Prop} {k : Nat} (hk : 0 < k ∧ k < 9) (hW : ∀ G μ m Q, MS μ m → Q (nI k) (VT μ m v) → W G (VT μ m v) m Q) (hT : ST μ z) (hR : ICr μ z R) (hMr : IMr μ z R) (hM : IMv μ z v ct V) (hV : JV B c v ct V) (hJ : JR B c R)
    (kk : Kk K z (B + 20000) (c + 12)) (g : Ag z μ ν (Pc z)) (i1 : ICv ν z v ct V) : ∃ a15, some (z + 584) = some a15 ∧ (mK ν a15 = 11 ∧ (mK ν a15 = 11 ∧ w_X11_remembersAll G ν a15 (fun μ2 => mK μ2 a15 = 11 ∧ W G μ2 a15 (fun u4 μ5 => mK μ5 a15 = 11 ∧ w_X11_ends G μ5 a15 u4 (fun u18 μ19 => mK μ19 a15 = 11 ∧ w_X11_thrown G μ19 a15 (fun u21 => (u21 = nI k → (¬ nI k = 0 → K μ19) ∧ (nI k = 0 → ∃ a24, some (z + 593) = some a24 ∧ (mK μ19 a24 = 35 ∧ (vp_in (nI 0) (mN μ19 a24) ∧ (lg_cmp (mL μ19 a24 (nI 0).toNatClampNeg) u18.toInt64 = 0 → K μ19) ∧ (¬ lg_cmp (mL μ19 a24 (nI 0).toNatClampNeg) u18.toInt64 = 0 → False))))) ∧ (¬ u21 = nI k → False))))))) := by
  obtain ⟨q1, q2, q3, q4⟩ := ok_chgF hT hR hMr hM g
  refine ⟨z + 584, rfl, q1.km, s_opF hk hW q1 q4 hV.2.1 (fun ρ g2 hf h3 hM2 => cmp_ok (q1.ag g2) h3 (fun z => absurd z (nI_ne0 hk.1 (by omega))) (kk ρ (ok_end q1 i1 q2 q3 g2 hf hM2 (JV_mono hV (by omega) (by omega)) (JR_mono hJ (by omega) (by omega)))))⟩
/-! questions -/
theorem qx {α : Type} {W10 : mgT → mmT → Nat → (α → Prop) → (String → Prop) → Prop} {A : (α → Prop) → (String → Prop) → Prop} (h10 : ∀ G μ z S Q X, ST μ z → Rel S v 4 16 → A Q X → W10 G (CT μ (z + 1) S) z Q X) (hT : ST μ z) (hs : St μ (z + 1) v) {Q : α → Prop} {X : String → Prop} (h : A Q X) : W10 G μ z Q X := by
  obtain ⟨S, e1, r1⟩ := hs
  have := h10 G μ z S Q X hT r1 h
  rw [BT_self e1] at this
  exact this
theorem ok_q (hT : ST μ z) (hI : ICv μ z v ct V) (hR : ICr μ z R) (hM : IMv μ z v ct V) (hMr : IMr μ z R) (hV : JV B c v ct V) (hJ : JR B c R) {k : Int32} : Ok (VT (sI μ 320 (z + 584) k) (z + 584) v) z (B + 20000) (c + 12) := by
  have g : Ag z μ (VT (sI μ 320 (z + 584) k) (z + 584) v) (fun b => b = z + 584 ∨ b = z + 585) := (Ag_sI.tr Ag_VT).up (fun b h => h)
  have f : ∀ F, F ≠ 320 → mI (VT (sI μ 320 (z + 584) k) (z + 584) v) F (z + 584) = mI μ F (z + 584) := fun F hF => VT_I.trans (sI_o (by omega))
  refine ⟨hT.ag g, v, ct, V, R, ⟨ICv_ag hI g (fun b hb q => by rcases q with q | q <;> omega), ICr_ag hR g (fun b hb q => by rcases q with q | q <;> omega)⟩, ⟨⟨fun i => VT_Az, HM_ag hM.2 g (by omega) (f _ (by omega))⟩, IMr_ag hMr g (fun F h1 h2 => f F (by omega)) (fun b hb q => by rcases q with q | q <;> omega)⟩, JV_mono hV (by omega) (by omega), JR_mono hJ (by omega) (by omega)⟩
theorem bqD {α : Type} {K : mmT → Prop} {W11 : mgT → mmT → Nat → (α → mmT → Prop) → Prop} {r : α} (f : α → Int64) (h11 : ∀ G μ m Q, MS μ m → Q r (VT (sI μ 320 m (nI 0)) m v) → W11 G (VT μ m v) m Q) (hT : ST μ z) (hI : ICv μ z v ct V) (hR : ICr μ z R) (hM : IMv μ z v ct V) (hMr : IMr μ z R) (hV : JV B c v ct V) (hJ : JR B c R)
    (kk : Kk K z (B + 20000) (c + 12)) : ∃ a15, some (z + 584) = some a15 ∧ (mK (sL μ (z + 593) (nI 0).toNatClampNeg (f r)) a15 = 11 ∧ W11 G (sL μ (z + 593) (nI 0).toNatClampNeg (f r)) a15 (fun u18 μ19 => mK μ19 a15 = 11 ∧ w_X11_thrown G μ19 a15 (fun u21 => (u21 = nI 0 → (¬ nI 0 = 0 → K μ19) ∧ (nI 0 = 0 → ∃ a24, some (z + 593) = some a24 ∧ (mK μ19 a24 = 35 ∧ (vp_in (nI 0) (mN μ19 a24) ∧ (lg_cmp (mL μ19 a24 (nI 0).toNatClampNeg) (f u18) = 0 → K μ19) ∧ (¬ lg_cmp (mL μ19 a24 (nI 0).toNatClampNeg) (f u18) = 0 → False))))) ∧ (¬ u21 = nI 0 → False)))) := by
  have q1 : ST (sL μ (z + 593) (nI 0).toNatClampNeg (f r)) z := hT
  have q2 : ICv (sL μ (z + 593) (nI 0).toNatClampNeg (f r)) z v ct V := hI
  have q3 : ICr (sL μ (z + 593) (nI 0).toNatClampNeg (f r)) z R := hR
  have q4 : IMv (sL μ (z + 593) (nI 0).toNatClampNeg (f r)) z v ct V := hM
  have q5 : IMr (sL μ (z + 593) (nI 0).toNatClampNeg (f r)) z R := hMr
  have eL : mL (sL μ (z + 593) (nI 0).toNatClampNeg (f r)) (z + 593) 0 = f r := sL_e0
  generalize sL μ (z + 593) (nI 0).toNatClampNeg (f r) = σ at *
  refine ⟨z + 584, rfl, q1.km, ?_⟩
  have hO := ok_q q1 q2 q3 q4 q5 hV hJ (k := nI 0)
  refine wV (W := fun μ => W11 G μ (z + 584) _) (m := z + 584) q4.1 (h11 G σ (z + 584) _ q1.ms ?_)
  exact cmp_ok hO.1 (VT_I.trans sI_e) (fun _ => eL) (kk _ hO)
theorem bqF {α : Type} {K : mmT → Prop} {W11 : mgT → mmT → Nat → (α → mmT → Prop) → Prop} {k : Nat} (f : α → Int64) (hk : 0 < k ∧ k < 9) (h11 : ∀ G μ m Q, MS μ m → (∀ r, Q r (VT (sI μ 320 m (nI k)) m v)) → W11 G (VT μ m v) m Q) (hT : ST μ z) (hI : ICv μ z v ct V) (hR : ICr μ z R) (hM : IMv μ z v ct V) (hMr : IMr μ z R) (hV : JV B c v ct V) (hJ : JR B c R)
    (kk : Kk K z (B + 20000) (c + 12)) : ∃ a15, some (z + 584) = some a15 ∧ (mK μ a15 = 11 ∧ W11 G μ a15 (fun u18 μ19 => mK μ19 a15 = 11 ∧ w_X11_thrown G μ19 a15 (fun u21 => (u21 = nI k → (¬ nI k = 0 → K μ19) ∧ (nI k = 0 → ∃ a24, some (z + 593) = some a24 ∧ (mK μ19 a24 = 35 ∧ (vp_in (nI 0) (mN μ19 a24) ∧ (lg_cmp (mL μ19 a24 (nI 0).toNatClampNeg) (f u18) = 0 → K μ19) ∧ (¬ lg_cmp (mL μ19 a24 (nI 0).toNatClampNeg) (f u18) = 0 → False))))) ∧ (¬ u21 = nI k → False)))) := by
  have hO := ok_q hT hI hR hM hMr hV hJ (k := nI k)
  refine ⟨z + 584, rfl, hT.km, ?_⟩
  refine wV (W := fun μ => W11 G μ (z + 584) _) (m := z + 584) hM.1 (h11 G μ (z + 584) _ hT.ms (fun r => ?_))
  exact cmp_ok hO.1 (VT_I.trans sI_e) (fun e => absurd e (nI_ne0 hk.1 (by omega))) (kk _ hO)
end LAWT

/-! A CHANGE OF THE REFERENCE -/
abbrev Pm (z : Nat) : Nat → Prop := fun b => b = z + 584 ∨ b = z + 585 ∨ b = z + 586 ∨ b = z + 588
section CHGM
variable {G : mgT} {μ ν ρ : mmT} {z a b c c2 m i F nx ct : Nat} {S S2 : cT} {v w v0 : Nat → Nat} {V : Nat → Nat → Nat} {R : rT} {P P2 : Nat → Prop} {B B2 N : Nat}
theorem s_chg {Q : Int32 → mmT → Prop} (W : mmT → Nat → (Int32 → mmT → Prop) → Prop) (hT : ST μ z) (hM : IMv μ z v ct V) (h8 : ct ≤ 8)
    (h : ∀ ν, MS ν (z + 584) → (∀ w r, (∀ ρ, Ag z μ ρ (Pm z) → (∀ F, 327 ≤ F → F ≤ 334 → mI ρ F (z + 584) = mI μ F (z + 584)) → mI ρ 320 (z + 584) = nI 0 → IMv ρ z w (ctP ct) (vP ct V v) → Q r ρ) → mK (sI (VT ν (z + 584) w) 335 (z + 584) r) (z + 584) = 11 ∧ w_X11_ends G (sI (VT ν (z + 584) w) 335 (z + 584) r) (z + 584) (nI 0) Q) →
      (∀ k, 0 < k ∧ k < 9 → (∀ ρ, Ag z μ ρ (Pm z) → (∀ F, 327 ≤ F → F ≤ 334 → mI ρ F (z + 584) = mI μ F (z + 584)) → mI ρ 320 (z + 584) = nI k → IMv ρ z v ct V → Q (nI 0) ρ) → mK (VT ν (z + 584) v) (z + 584) = 11 ∧ w_X11_ends G (VT ν (z + 584) v) (z + 584) (nI k) Q) →
      W (VT ν (z + 584) v) (z + 584) (fun u ρ => mK ρ (z + 584) = 11 ∧ w_X11_ends G ρ (z + 584) u Q)) :
    mK μ (z + 584) = 11 ∧ w_X11_remembersAll G μ (z + 584) (fun μ2 => mK μ2 (z + 584) = 11 ∧ W μ2 (z + 584) (fun u4 μ5 => mK μ5 (z + 584) = 11 ∧ w_X11_ends G μ5 (z + 584) u4 Q)) := by
  obtain ⟨mV, mH⟩ := hM
  refine ⟨hT.km, wV (W := fun μ => w_X11_remembersAll G μ (z + 584) _) (m := z + 584) mV (s_X11_remembersAll hT.ms hT.fr (fun g hg => ?_))⟩
  have g1 : Ag z μ (AT (sI μ 320 (z + 584) (nI 0)) (z + 584 + 2) g) (fun b => b = z + 584 ∨ b = z + 586) := (Ag_sI.tr Ag_AT).up (fun b hb => hb)
  have f3 : ∀ F, F ≠ 320 → mI (AT (sI μ 320 (z + 584) (nI 0)) (z + 584 + 2) g) F (z + 584) = mI μ F (z + 584) := fun F hF => AT_I.trans (sI_o (by omega))
  have f0 : mI (AT (sI μ 320 (z + 584) (nI 0)) (z + 584 + 2) g) 320 (z + 584) = nI 0 := AT_I.trans sI_e
  have fg : ∀ q, q < 258 → mA (AT (sI μ 320 (z + 584) (nI 0)) (z + 584 + 2) g) (z + 586) q = nI (v q) := fun q hq => AT_A.trans (hg q hq)
  generalize AT (sI μ 320 (z + 584) (nI 0)) (z + 584 + 2) g = ν at *
  have hT2 := hT.ag g1
  refine ⟨hT2.km, h ν hT2.ms (fun w r hq => ?_) (fun k hk hq => ?_)⟩
  · have g2 : Ag z ν (sI (VT ν (z + 584) w) 335 (z + 584) r) (fun b => b = z + 585 ∨ b = z + 584) := (Ag_VT.tr Ag_sI).up (fun b hb => hb)
    have hT3 := hT2.ag g2
    have e5 : ∀ i, mA (sI (VT ν (z + 584) w) 335 (z + 584) r) (z + 585) i = nI (w i) := fun i => sI_A.trans VT_Az
    have e6 : ∀ q, q < 258 → mA (sI (VT ν (z + 584) w) 335 (z + 584) r) (z + 586) q = nI (v q) := fun q hq => (g2.A (by omega)).trans (fg q hq)
    have e7 : mI (sI (VT ν (z + 584) w) 335 (z + 584) r) 335 (z + 584) = r := sI_e
    have e8 : ∀ F, F ≠ 335 → mI (sI (VT ν (z + 584) w) 335 (z + 584) r) F (z + 584) = mI ν F (z + 584) := fun F hF => (sI_o (by omega)).trans VT_I
    have e9 : HM (sI (VT ν (z + 584) w) 335 (z + 584) r) z ct V := HM_ag (HM_ag mH g1 (by omega) (f3 _ (by omega))) g2 (by omega) (e8 _ (by omega))
    generalize sI (VT ν (z + 584) w) 335 (z + 584) r = σ at *
    refine ⟨hT3.km, s_X11_ends hT3 e9 h8 e6 e7 (fun ρ g3 f4 h4 => hq ρ (((g1.tr g2).tr g3).up (fun b hb => by show _ ∨ _; omega)) (fun F h1 h2 => ?_) ?_ ⟨fun i => (g3.A (by omega)).trans (e5 i), h4⟩)⟩
    · rw [f4 F (by omega), e8 F (by omega), f3 F (by omega)]
    · rw [f4 _ (by omega), e8 _ (by omega), f0]
  · have g2 : Ag z ν (sI (VT ν (z + 584) v) 320 (z + 584) (nI k)) (fun b => b = z + 585 ∨ b = z + 584) := (Ag_VT.tr Ag_sI).up (fun b hb => hb)
    have hT3 : ST (VT ν (z + 584) v) z := hT2.ag (Ag_VT (m := z + 584))
    refine ⟨hT3.km, s_X11_endsF hT3 hk (hq _ ((g1.tr g2).up (fun b hb => by show _ ∨ _; omega)) (fun F h1 h2 => ?_) sI_e ⟨fun i => sI_A.trans VT_Az, HM_ag (HM_ag mH g1 (by omega) (f3 _ (by omega))) g2 (by omega) (sI_o (by omega))⟩)⟩
    exact (sI_o (by omega)).trans (f3 F (by omega))
/-- .. done, refused -/
theorem s_opD {Q : Int32 → mmT → Prop} {W : mgT → mmT → Nat → (Int32 → mmT → Prop) → Prop} {r : Nat} (hW : ∀ G μ m Q, MS μ m → Q (nI 0) (sI (VT μ m w) 335 m (nI r)) → W G (VT μ m v) m Q) (hT : ST μ z) (hM : IMv μ z v ct V) (h8 : ct ≤ 8)
    (hq : ∀ ρ, Ag z μ ρ (Pm z) → (∀ F, 327 ≤ F → F ≤ 334 → mI ρ F (z + 584) = mI μ F (z + 584)) → mI ρ 320 (z + 584) = nI 0 → IMv ρ z w (ctP ct) (vP ct V v) → Q (nI r) ρ) :
    mK μ (z + 584) = 11 ∧ w_X11_remembersAll G μ (z + 584) (fun μ2 => mK μ2 (z + 584) = 11 ∧ W G μ2 (z + 584) (fun u4 μ5 => mK μ5 (z + 584) = 11 ∧ w_X11_ends G μ5 (z + 584) u4 Q)) :=
  s_chg (W G) hT hM h8 (fun ν hs A _ => hW G ν (z + 584) _ hs (A w (nI r) hq))
theorem s_opF {Q : Int32 → mmT → Prop} {W : mgT → mmT → Nat → (Int32 → mmT → Prop) → Prop} {k : Nat} (hk : 0 < k ∧ k < 9) (hW : ∀ G μ m Q, MS μ m → Q (nI k) (VT μ m v) → W G (VT μ m v) m Q) (hT : ST μ z) (hM : IMv μ z v ct V) (h8 : ct ≤ 8)
    (hq : ∀ ρ, Ag z μ ρ (Pm z) → (∀ F, 327 ≤ F → F ≤ 334 → mI ρ F (z + 584) = mI μ F (z + 584)) → mI ρ 320 (z + 584) = nI k → IMv ρ z v ct V → Q (nI 0) ρ) :
    mK μ (z + 584) = 11 ∧ w_X11_remembersAll G μ (z + 584) (fun μ2 => mK μ2 (z + 584) = 11 ∧ W G μ2 (z + 584) (fun u4 μ5 => mK μ5 (z + 584) = 11 ∧ w_X11_ends G μ5 (z + 584) u4 Q)) :=
  s_chg (W G) hT hM h8 (fun ν hs _ A => hW G ν (z + 584) _ hs (A k hk hq))
theorem t_opD {Q : Int32 → mmT → Prop} {X : String → mmT → Prop} {W : mgT → mmT → Nat → (Int32 → mmT → Prop) → Prop} {r : Nat} (hr : r < 2 ^ 31) (hW : ∀ G μ a S Q, SS μ a → Rel S v 4 16 → (∀ S', Rel S' w 4 16 → Q (nI r) (CT μ a S')) → W G (CT μ a S) a Q) (hT : ST μ z) (hI : ICv μ z v ct V) (l : Lim v)
    (hq : ∀ ρ, Ag z μ ρ (Pc z) → ICv ρ z w (ctP ct) (vP ct V v) → Q (nI r) ρ) :
    mK μ z = 10 ∧ ∃ a2, mR μ 289 z = some a2 ∧ (mK μ a2 = 8 ∧ w_X8_copyFrom G μ a2 (mR μ 288 z) (fun μ5 => mK μ5 z = 10 ∧ ∃ a7, mR μ5 288 z = some a7 ∧ (mK μ5 a7 = 8 ∧ W G μ5 a7 (fun u10 μ11 => mK μ11 z = 10 ∧ w_X10_settle G μ11 z u10 Q X)))) :=
  t_chg (W G) hT hI l (fun ν S hs r1 A _ => hW G ν (z + 1) S _ hs r1 (fun S' r' => A r w S' hr r' hq))
theorem t_opF {Q : Int32 → mmT → Prop} {X : String → mmT → Prop} {W : mgT → mmT → Nat → (Int32 → mmT → Prop) → Prop} {e : Int32} {E : String} (hx : ∀ ρ, X E ρ → w_X10_settle G ρ z e Q X) (hW : ∀ G μ a S Q, SS μ a → Rel S v 4 16 → Q e (CT μ a S) → W G (CT μ a S) a Q) (hT : ST μ z) (hI : ICv μ z v ct V) (l : Lim v)
    (hq : ∀ ρ, Ag z μ ρ (Pc z) → ICv ρ z v ct V → X E ρ) :
    mK μ z = 10 ∧ ∃ a2, mR μ 289 z = some a2 ∧ (mK μ a2 = 8 ∧ w_X8_copyFrom G μ a2 (mR μ 288 z) (fun μ5 => mK μ5 z = 10 ∧ ∃ a7, mR μ5 288 z = some a7 ∧ (mK μ5 a7 = 8 ∧ W G μ5 a7 (fun u10 μ11 => mK μ11 z = 10 ∧ w_X10_settle G μ11 z u10 Q X)))) :=
  t_chg (W G) hT hI l (fun ν S hs r1 _ A => hW G ν (z + 1) S _ hs r1 (A e E hx hq))
end CHGM

/-! THE REFERENCE RUNS A SCRIPT -/
section SCRM
variable {G : mgT} {μ ν ρ σ τ μ0 : mmT} {z m i j k F n o f g s d N q ct : Nat} {S S2 : cT} {v w v0 : Nat → Nat} {V : Nat → Nat → Nat} {R : rT} {X : Nat → Nat} {a b a2 b2 x y E Gf : Int32} {B c : Nat} {P P2 : Nat → Prop}
def Rn (R : rT) (E Gf : Int32) : rT := (R.1, ((0, rX R), ((E, Gf), R.2.2.2)))
theorem JR_n (h : JR B c R) : JR B c (Rn R E Gf) := ⟨h.1, h.2.1, Nat.zero_le _, fun i hi => absurd hi (Nat.not_lt_zero _), h.2.2.2.2⟩
abbrev Pr (z : Nat) : Nat → Prop := fun b => b = z + 584 ∨ b = z + 585 ∨ b = z + 586 ∨ b = z + 588 ∨ b = z + 591
theorem IMr_n (h : IMr σ z R) (g : Ag z σ ρ (Pr z)) (f27 : mI ρ 327 (z + 584) = mI σ 327 (z + 584)) (f32 : mI ρ 332 (z + 584) = mI σ 332 (z + 584)) (h31 : mI ρ 331 (z + 584) = nI 0) (h33 : mI ρ 333 (z + 584) = E) (h34 : mI ρ 334 (z + 584) = Gf) : IMr ρ z (Rn R E Gf) :=
  ⟨⟨f27.trans h.1.1, fun q i hi => (g.A (by show ¬ (_ ∨ _); omega)).trans (h.1.2 q i hi)⟩, ⟨h31, fun i hi => absurd hi (Nat.not_lt_zero _)⟩, ⟨h33, h34⟩, ⟨f32.trans h.2.2.2.1, fun i hi => (g.A (by show ¬ (_ ∨ _); omega)).trans (h.2.2.2.2 i hi)⟩⟩
theorem s_pre {Q : Int32 → mmT → Prop} (hT : ST σ z) (hM : IMv σ z v ct V) (hMr : IMr σ z R) (hF : rF R ≤ 60) (hX : ∀ i, i < rF R → rX R i ≤ 126) (hN : ∀ k, k < N → go (rX R) (rF R) k) (hn : ¬ go (rX R) (rF R) N)
    (hq : ∀ ν, Ag z σ ν (Pr z) → (∀ F, F ≠ 320 → F ≠ 331 → F ≠ 336 → F ≠ 337 → F ≠ 338 → F ≠ 339 → mI ν F (z + 584) = mI σ F (z + 584)) → mI ν 320 (z + 584) = nI 0 → mI ν 331 (z + 584) = nI 0 → mI ν 337 (z + 584) = nI (rF R) → mI ν 336 (z + 584) = nI (stp (rX R) (rF R) (sS (rX R) (rF R) N)) →
      mI ν 339 (z + 584) = (if okp (rX R) (rF R) (sS (rX R) (rF R) N) = true then nI 0 else nI 1) → mI ν 338 (z + 584) = nI (N + 1) → (okp (rX R) (rF R) (sS (rX R) (rF R) N) = true → ∀ j, j ≤ N → Md ν z (rX R) (rF R) (sS (rX R) (rF R) j) j) → (∀ i, mA ν (z + 585) i = nI (v i)) → (∀ q, q < 258 → mA ν (z + 586) q = nI (v q)) → (∀ q, mA ν (z + 588) q = mA σ (z + 588) q) → w_X11_runScript_b70 G (z + 584) Q ν) : w_X11_runScript G σ (z + 584) Q := by
  have hb := sS_b (X := rX R) (F := rF R) N hN
  unfold w_X11_runScript
  refine ⟨hT.km, wV (W := fun μ => w_X11_remembersAll G μ (z + 584) _) (m := z + 584) hM.1 (s_X11_remembersAll hT.ms hT.fr (fun g hg => ?_))⟩
  have g1 : Ag z σ (VT (AT (sI σ 320 (z + 584) (nI 0)) (z + 584 + 2) g) (z + 584) v) (Pr z) := ((Ag_sI.tr Ag_AT).tr Ag_VT).up (fun b hb => by show _ ∨ _; omega)
  have f3 : ∀ F, F ≠ 320 → mI (VT (AT (sI σ 320 (z + 584) (nI 0)) (z + 584 + 2) g) (z + 584) v) F (z + 584) = mI σ F (z + 584) := fun F hF => VT_I.trans (AT_I.trans (sI_o (by omega)))
  have f0 : mI (VT (AT (sI σ 320 (z + 584) (nI 0)) (z + 584 + 2) g) (z + 584) v) 320 (z + 584) = nI 0 := VT_I.trans (AT_I.trans sI_e)
  have fv5 : ∀ i, mA (VT (AT (sI σ 320 (z + 584) (nI 0)) (z + 584 + 2) g) (z + 584) v) (z + 585) i = nI (v i) := fun i => VT_Az
  have fg : ∀ q, q < 258 → mA (VT (AT (sI σ 320 (z + 584) (nI 0)) (z + 584 + 2) g) (z + 584) v) (z + 586) q = nI (v q) := fun q hq => (VT_Ao (by omega)).trans (AT_A.trans (hg q hq))
  have f88 : ∀ q, mA (VT (AT (sI σ 320 (z + 584) (nI 0)) (z + 584 + 2) g) (z + 584) v) (z + 588) q = mA σ (z + 588) q := fun q => (VT_Ao (by omega)).trans (AT_Ao (by omega))
  generalize VT (AT (sI σ 320 (z + 584) (nI 0)) (z + 584 + 2) g) (z + 584) v = τ at *
  have hT2 := hT.ag g1
  have e31 : mI (sI τ 336 (z + 584) (nI 0)) 331 (z + 584) = nI (rF R) := (sI_o (by omega)).trans ((f3 _ (by decide)).trans hMr.2.1.1)
  refine ⟨hT2.km, ?_⟩
  rw [e31]
  have g2 : Ag z τ (sI (sI (sI (sI (sI τ 336 (z + 584) (nI 0)) 337 (z + 584) (nI (rF R))) 331 (z + 584) (nI 0)) 338 (z + 584) (nI 0)) 339 (z + 584) (nI 0)) (fun b => b = z + 584) := ((((Ag_sI.tr Ag_sI).tr Ag_sI).tr Ag_sI).tr Ag_sI).up (fun b hb => by omega)
  have k1 : ∀ F, F ≠ 331 → F ≠ 336 → F ≠ 337 → F ≠ 338 → F ≠ 339 → mI (sI (sI (sI (sI (sI τ 336 (z + 584) (nI 0)) 337 (z + 584) (nI (rF R))) 331 (z + 584) (nI 0)) 338 (z + 584) (nI 0)) 339 (z + 584) (nI 0)) F (z + 584) = mI τ F (z + 584) := fun F a1 a2 a3 a4 a5 => (sI_o (by omega)).trans ((sI_o (by omega)).trans ((sI_o (by omega)).trans ((sI_o (by omega)).trans (sI_o (by omega)))))
  have k9 : mI (sI (sI (sI (sI (sI τ 336 (z + 584) (nI 0)) 337 (z + 584) (nI (rF R))) 331 (z + 584) (nI 0)) 338 (z + 584) (nI 0)) 339 (z + 584) (nI 0)) 339 (z + 584) = nI 0 := sI_e
  have k8 : mI (sI (sI (sI (sI (sI τ 336 (z + 584) (nI 0)) 337 (z + 584) (nI (rF R))) 331 (z + 584) (nI 0)) 338 (z + 584) (nI 0)) 339 (z + 584) (nI 0)) 338 (z + 584) = nI 0 := (sI_o (by omega)).trans sI_e
  have k31 : mI (sI (sI (sI (sI (sI τ 336 (z + 584) (nI 0)) 337 (z + 584) (nI (rF R))) 331 (z + 584) (nI 0)) 338 (z + 584) (nI 0)) 339 (z + 584) (nI 0)) 331 (z + 584) = nI 0 := (sI_o (by omega)).trans ((sI_o (by omega)).trans sI_e)
  have k37 : mI (sI (sI (sI (sI (sI τ 336 (z + 584) (nI 0)) 337 (z + 584) (nI (rF R))) 331 (z + 584) (nI 0)) 338 (z + 584) (nI 0)) 339 (z + 584) (nI 0)) 337 (z + 584) = nI (rF R) := (sI_o (by omega)).trans ((sI_o (by omega)).trans ((sI_o (by omega)).trans sI_e))
  have k36 : mI (sI (sI (sI (sI (sI τ 336 (z + 584) (nI 0)) 337 (z + 584) (nI (rF R))) 331 (z + 584) (nI 0)) 338 (z + 584) (nI 0)) 339 (z + 584) (nI 0)) 336 (z + 584) = nI 0 := (sI_o (by omega)).trans ((sI_o (by omega)).trans ((sI_o (by omega)).trans ((sI_o (by omega)).trans sI_e)))
  generalize sI (sI (sI (sI (sI τ 336 (z + 584) (nI 0)) 337 (z + 584) (nI (rF R))) 331 (z + 584) (nI 0)) 338 (z + 584) (nI 0)) 339 (z + 584) (nI 0) = η at *
  have hT3 := hT2.ag g2
  have ty : Ty η z (rX R) (rF R) := ⟨k37, fun i hi => (g2.A (by omega)).trans ((g1.A (by show ¬ (_ ∨ _); omega)).trans (hMr.2.1.2 i hi))⟩
  refine s_readsOne (s := 0) (c := 0) hF hX hT3 ty k8 (by decide) (Nat.zero_le _) k36 k9 (fun ν b1 r6 r9 r8 rM => ⟨N + 1, s_sp hF hX hT3 ty hN hn (fun π b2 p6 p9 p8 pM => ?_) N 0 ν (Nat.zero_add _) (b1.up (fun _ _ => trivial)) r6 r9 r8 (fun q j hj => ?_)⟩)
  · have ga : Ag z σ π (Pr z) := ((g1.tr g2).tr b2.1).up (fun b hb => by
      show b = z + 584 ∨ _
      rcases hb with (hb | hb) | hb
      · exact hb
      · exact Or.inl hb
      · rcases hb with hb | hb
        · exact Or.inl hb
        · exact Or.inr (Or.inr (Or.inr (Or.inr hb))))
    refine hq π ga (fun F a0 a1 a2 a3 a4 a5 => ?_) ?_ ?_ ?_ p6 p9 p8 pM (fun i => ?_) (fun q hq => ?_) (fun q => ?_)
    · rw [b2.2.1 F a2 a4 a5, k1 F a1 a2 a3 a4 a5, f3 F a0]
    · rw [b2.2.1 _ (by decide) (by decide) (by decide), k1 _ (by decide) (by decide) (by decide) (by decide) (by decide), f0]
    · rw [b2.2.1 _ (by decide) (by decide) (by decide), k31]
    · rw [b2.2.1 _ (by decide) (by decide) (by decide), k37]
    · rw [b2.1.A (by omega), g2.A (by omega), fv5]
    · rw [b2.1.A (by omega), g2.A (by omega), fg q hq]
    · rw [b2.1.A (by omega), g2.A (by omega), f88]
  · obtain rfl : j = 0 := by omega
    exact rM q
/-- .. the text has no form -/
theorem s_scrE {Q : Int32 → mmT → Prop} (hT : ST σ z) (hM : IMv σ z v ct V) (hMr : IMr σ z R) (hF : rF R ≤ 60) (hX : ∀ i, i < rF R → rX R i ≤ 126) (hN : ∀ k, k < N → go (rX R) (rF R) k) (hn : ¬ go (rX R) (rF R) N) (hv : ¬ fv (rX R) (rF R) N = true)
    (hq : ∀ ρ, Ag z σ ρ (Pr z) → mI ρ 320 (z + 584) = nI 1 → IMv ρ z v ct V → IMr ρ z (Rn R (nI (stp (rX R) (rF R) (sS (rX R) (rF R) N))) (rG R)) → Q (nI 0) ρ) : w_X11_runScript G σ (z + 584) Q := by
  have hb := sS_b (X := rX R) (F := rF R) N hN
  have hs := stp_b (X := rX R) hb.2
  refine s_pre hT hM hMr hF hX hN hn (fun ν g f f0 f31 f37 f36 f39 f38 fM f85 f86 f88 => ?_)
  have hT2 := hT.ag g
  have fin : w_X11_runScript_b88 G (z + 584) Q ν := by
    unfold w_X11_runScript_b88 w_X11_fails
    refine ⟨hT2.km, hT2.km, ?_⟩
    rw [f36]
    generalize nI (stp (rX R) (rF R) (sS (rX R) (rF R) N)) = e at *
    have g2 : Ag z ν (sI (sI ν 333 (z + 584) e) 320 (z + 584) (nI 1)) (Pr z) := (Ag_sI.tr Ag_sI).up (fun b hb => by show _ ∨ _; omega)
    have k : ∀ F, F ≠ 320 → F ≠ 333 → mI (sI (sI ν 333 (z + 584) e) 320 (z + 584) (nI 1)) F (z + 584) = mI ν F (z + 584) := fun F a b => (sI_o (by omega)).trans (sI_o (by omega))
    have k3 : mI (sI (sI ν 333 (z + 584) e) 320 (z + 584) (nI 1)) 333 (z + 584) = e := (sI_o (by omega)).trans sI_e
    have kA : ∀ b i, mA (sI (sI ν 333 (z + 584) e) 320 (z + 584) (nI 1)) b i = mA ν b i := fun b i => sI_A.trans sI_A
    have k0 : mI (sI (sI ν 333 (z + 584) e) 320 (z + 584) (nI 1)) 320 (z + 584) = nI 1 := sI_e
    generalize sI (sI ν 333 (z + 584) e) 320 (z + 584) (nI 1) = ρ at *
    have g3 : Ag z σ ρ (Pr z) := (g.tr g2).up (fun b hb => hb.elim id id)
    have kf : ∀ F, F ≠ 320 → F ≠ 331 → F ≠ 333 → F ≠ 336 → F ≠ 337 → F ≠ 338 → F ≠ 339 → mI ρ F (z + 584) = mI σ F (z + 584) := fun F a0 a1 a2 a3 a4 a5 a6 => (k F a0 a2).trans (f F a0 a1 a3 a4 a5 a6)
    refine hq ρ g3 k0 ⟨fun i => (kA _ _).trans (f85 i), (kf _ (by decide) (by decide) (by decide) (by decide) (by decide) (by decide) (by decide)).trans hM.2.1, fun a ha q hq => (kA _ _).trans ((f88 _).trans (hM.2.2 a ha q hq))⟩ (IMr_n hMr g3 (kf _ (by decide) (by decide) (by decide) (by decide) (by decide) (by decide) (by decide)) (kf _ (by decide) (by decide) (by decide) (by decide) (by decide) (by decide) (by decide)) ((k _ (by decide) (by decide)).trans f31) k3 ((kf _ (by decide) (by decide) (by decide) (by decide) (by decide) (by decide) (by decide)).trans hMr.2.2.1.2))
  refine ⟨hT2.km, fun _ => fin, fun q => ?_⟩
  rw [f37, f36]
  refine ⟨fun e => absurd (fv_t.mpr ⟨?_, ?_⟩) hv, fun _ => fin⟩
  · exact Classical.byContradiction fun r => by
      rw [if_neg r] at f39
      exact absurd (f39.symm.trans q) (by decide)
  · have := (nI_leI (by omega) (by omega)).mp e
    omega
/-- .. all is done -/
theorem s_scrD {Q : Int32 → mmT → Prop} (hT : ST σ z) (hM : IMv σ z v ct V) (h8 : ct ≤ 8) (hMr : IMr σ z R) (hF : rF R ≤ 60) (hX : ∀ i, i < rF R → rX R i ≤ 126) (hN : ∀ k, k < N → go (rX R) (rF R) k) (hn : ¬ go (rX R) (rF R) N) (hv : fv (rX R) (rF R) N = true) (hr : mDn (rX R) (rF R) N 0 (N + 1) v w)
    (hq : ∀ ρ, Ag z σ ρ (Pr z) → mI ρ 320 (z + 584) = nI 0 → IMv ρ z w (ctP ct) (vP ct V v) → IMr ρ z (Rn R (rE R) (rG R)) → Q (nI (N + 1)) ρ) : w_X11_runScript G σ (z + 584) Q := by
  have hb := sS_b (X := rX R) (F := rF R) N hN
  obtain ⟨ok, st⟩ := fv_t.mp hv
  refine s_pre hT hM hMr hF hX hN hn (fun ν g f f0 f31 f37 f36 f39 f38 fM f85 f86 f88 => ?_)
  have hT2 := hT.ag g
  rw [if_pos ok] at f39
  refine ⟨hT2.km, fun q => absurd f39 q, fun _ => ⟨fun _ => ⟨N + 2, ?_⟩, fun q => absurd ?_ q⟩⟩
  · refine wV (W := fun μ => w_X11_runScript_l104 G (z + 584) Q (N + 2) (nI 0) μ) (m := z + 584) f85 (hr G z ν Q hT2 ⟨f38, fM ok⟩ (fun ρ r => ?_))
    have hT3 : ST (VT ρ (z + 584) w) z := (hT2.ag r.1).ag Ag_VT
    have g2 : Ag z ν (VT ρ (z + 584) w) (Pr z) := (r.1.tr Ag_VT).up (fun b hb => by show _ ∨ _; omega)
    have k : ∀ F, F ≠ 335 → mI (VT ρ (z + 584) w) F (z + 584) = mI ν F (z + 584) := fun F hF => VT_I.trans (r.2.1 F hF)
    have k5 : ∀ i, mA (VT ρ (z + 584) w) (z + 585) i = nI (w i) := fun i => VT_Az
    have kA : ∀ b i, b ≠ z + 585 → mA (VT ρ (z + 584) w) b i = mA ν b i := fun b i hb => (VT_Ao (by omega)).trans (by rw [r.2.2])
    generalize VT ρ (z + 584) w = τ at *
    have e8 : mI τ 338 (z + 584) = nI (N + 1) := (k _ (by decide)).trans f38
    have g3 : Ag z σ τ (Pr z) := (g.tr g2).up (fun b hb => hb.elim id id)
    have kf : ∀ F, F ≠ 320 → F ≠ 331 → F ≠ 335 → F ≠ 336 → F ≠ 337 → F ≠ 338 → F ≠ 339 → mI τ F (z + 584) = mI σ F (z + 584) := fun F a0 a1 a2 a3 a4 a5 a6 => (k F a2).trans (f F a0 a1 a3 a4 a5 a6)
    have hm : HM τ z ct V := ⟨(kf _ (by decide) (by decide) (by decide) (by decide) (by decide) (by decide) (by decide)).trans hM.2.1, fun a ha q hq => (kA _ _ (by omega)).trans ((f88 _).trans (hM.2.2 a ha q hq))⟩
    refine ⟨hT3.km, ?_⟩
    rw [e8]
    refine ⟨fun _ => s_X11_changed hT3 hm h8 (v0 := v) (fun q hq => (kA _ _ (by omega)).trans (f86 q hq)) (fun π g4 p4 hm4 => ?_), fun q => absurd (nI_le (Nat.le_refl _) (by omega)) q⟩
    have g5 : Ag z σ π (Pr z) := (g3.tr g4).up (fun b hb => by
      show _ ∨ _
      rcases hb with hb | hb | hb
      · exact hb
      · omega
      · omega)
    have kp : ∀ F, F ≠ 320 → F ≠ 326 → F ≠ 331 → F ≠ 335 → F ≠ 336 → F ≠ 337 → F ≠ 338 → F ≠ 339 → mI π F (z + 584) = mI σ F (z + 584) := fun F a0 a7 a1 a2 a3 a4 a5 a6 => (p4 F a7).trans (kf F a0 a1 a2 a3 a4 a5 a6)
    refine hq π g5 ?_ ⟨fun i => (g4.A (by omega)).trans (k5 i), hm4⟩ (IMr_n hMr g5 (kp _ (by decide) (by decide) (by decide) (by decide) (by decide) (by decide) (by decide) (by decide)) (kp _ (by decide) (by decide) (by decide) (by decide) (by decide) (by decide) (by decide) (by decide)) ?_ ?_ ?_)
    · rw [p4 _ (by decide), k _ (by decide), f0]
    · rw [p4 _ (by decide), k _ (by decide), f31]
    · exact (kp _ (by decide) (by decide) (by decide) (by decide) (by decide) (by decide) (by decide) (by decide)).trans hMr.2.2.1.1
    · exact (kp _ (by decide) (by decide) (by decide) (by decide) (by decide) (by decide) (by decide) (by decide)).trans hMr.2.2.1.2
  · rw [f37, f36, st]
    exact nI_le (Nat.le_refl _) (by omega)
/-- .. a command failed -/
theorem s_back {Q : Int32 → mmT → Prop} (hT : ST ρ z) (hr : ∀ q, q < 258 → mA ρ (z + 586) q = nI (v q)) (h : Q (nI 0) (sI (sI (VT ρ (z + 584) (mx v w)) 334 (z + 584) x) 320 (z + 584) (nI 2))) : ∃ n, w_X11_runScript_l125 G (z + 584) Q n x (nI 0) (VT ρ (z + 584) w) := by
  refine (lpE (W := fun n i => w_X11_runScript_l125 G (z + 584) Q n x (nI i) (VT ρ (z + 584) (fun k => if k < i then v k else w k))) (N := 258) ?_ (Nat.zero_le _)).imp fun n hn => ?_
  · intro n i hi ih
    show w_X11_runScript_b125 G (z + 584) Q _ x (nI i) _
    unfold w_X11_runScript_b125 w_X11_fails
    refine pk_le 258 i (fun cc => ⟨hT.km, hT.km, ?_⟩) (fun cc => ⟨hT.km, z + 586, hT.fr.1, hT.fr.2.1, vp_th hT.fr.2.2 cc (by decide), z + 585, hT.ms.2.1, hT.ms.2.2.1, vp_th hT.ms.2.2.2 cc (by decide), ?_⟩)
    · have : i = 258 := by omega
      subst this
      exact h
    · rw [cl (by omega), VT_Ao (by omega), hr i cc, VT_sA (m := z + 584), rowV_step, nI_add]
      exact ih cc
  · rw [rowV_0] at hn
    exact hn
theorem s_scrF {Q : Int32 → mmT → Prop} (hT : ST σ z) (hM : IMv σ z v ct V) (hMr : IMr σ z R) (hF : rF R ≤ 60) (hX : ∀ i, i < rF R → rX R i ≤ 126) (hN : ∀ k, k < N → go (rX R) (rF R) k) (hn : ¬ go (rX R) (rF R) N) (hv : fv (rX R) (rF R) N = true) (hr : mFl (rX R) (rF R) N 0 (N + 1) q v w)
    (hq : ∀ ρ, Ag z σ ρ (Pr z) → mI ρ 320 (z + 584) = nI 2 → IMv ρ z (mx v w) ct V → IMr ρ z (Rn R (rE R) (nI q)) → Q (nI 0) ρ) : w_X11_runScript G σ (z + 584) Q := by
  have hb := sS_b (X := rX R) (F := rF R) N hN
  obtain ⟨ok, st⟩ := fv_t.mp hv
  refine s_pre hT hM hMr hF hX hN hn (fun ν g f f0 f31 f37 f36 f39 f38 fM f85 f86 f88 => ?_)
  have hT2 := hT.ag g
  rw [if_pos ok] at f39
  refine ⟨hT2.km, fun q => absurd f39 q, fun _ => ⟨fun _ => ⟨N + 2, ?_⟩, fun q => absurd ?_ q⟩⟩
  · refine wV (W := fun μ => w_X11_runScript_l104 G (z + 584) Q (N + 2) (nI 0) μ) (m := z + 584) f85 (hr G z ν Q hT2 ⟨f38, fM ok⟩ (fun ρ r => s_back (v := v) (hT2.ag r.1) (fun q hq => ?_) ?_))
    · rw [r.2.2]; exact f86 q hq
    have g2 : Ag z ν (sI (sI (VT ρ (z + 584) (mx v w)) 334 (z + 584) (nI q)) 320 (z + 584) (nI 2)) (Pr z) := (((r.1.tr Ag_VT).tr Ag_sI).tr Ag_sI).up (fun b hb => by show _ ∨ _; omega)
    have k : ∀ F, F ≠ 320 → F ≠ 334 → F ≠ 335 → mI (sI (sI (VT ρ (z + 584) (mx v w)) 334 (z + 584) (nI q)) 320 (z + 584) (nI 2)) F (z + 584) = mI ν F (z + 584) := fun F h0 h4 hF => (sI_o (by omega)).trans ((sI_o (by omega)).trans (VT_I.trans (r.2.1 F hF)))
    have k0 : mI (sI (sI (VT ρ (z + 584) (mx v w)) 334 (z + 584) (nI q)) 320 (z + 584) (nI 2)) 320 (z + 584) = nI 2 := sI_e
    have k4 : mI (sI (sI (VT ρ (z + 584) (mx v w)) 334 (z + 584) (nI q)) 320 (z + 584) (nI 2)) 334 (z + 584) = nI q := (sI_o (by omega)).trans sI_e
    have k5 : ∀ i, mA (sI (sI (VT ρ (z + 584) (mx v w)) 334 (z + 584) (nI q)) 320 (z + 584) (nI 2)) (z + 585) i = nI (mx v w i) := fun i => sI_A.trans (sI_A.trans VT_Az)
    have kA : ∀ b i, b ≠ z + 585 → mA (sI (sI (VT ρ (z + 584) (mx v w)) 334 (z + 584) (nI q)) 320 (z + 584) (nI 2)) b i = mA ν b i := fun b i hb => sI_A.trans (sI_A.trans ((VT_Ao (by omega)).trans (by rw [r.2.2])))
    generalize sI (sI (VT ρ (z + 584) (mx v w)) 334 (z + 584) (nI q)) 320 (z + 584) (nI 2) = τ at *
    have g3 : Ag z σ τ (Pr z) := (g.tr g2).up (fun b hb => hb.elim id id)
    have kf : ∀ F, F ≠ 320 → F ≠ 331 → F ≠ 334 → F ≠ 335 → F ≠ 336 → F ≠ 337 → F ≠ 338 → F ≠ 339 → mI τ F (z + 584) = mI σ F (z + 584) := fun F a0 a1 a7 a2 a3 a4 a5 a6 => (k F a0 a7 a2).trans (f F a0 a1 a3 a4 a5 a6)
    exact hq τ g3 k0 ⟨k5, (kf _ (by decide) (by decide) (by decide) (by decide) (by decide) (by decide) (by decide) (by decide)).trans hM.2.1, fun a ha q hq => (kA _ _ (by omega)).trans ((f88 _).trans (hM.2.2 a ha q hq))⟩ (IMr_n hMr g3 (kf _ (by decide) (by decide) (by decide) (by decide) (by decide) (by decide) (by decide) (by decide)) (kf _ (by decide) (by decide) (by decide) (by decide) (by decide) (by decide) (by decide) (by decide)) ((k _ (by decide) (by decide) (by decide)).trans f31) ((kf _ (by decide) (by decide) (by decide) (by decide) (by decide) (by decide) (by decide) (by decide)).trans hMr.2.2.1.1) k4)
  · rw [f37, f36, st]
    exact nI_le (Nat.le_refl _) (by omega)
end SCRM

/-! WHAT HOLDS BETWEEN TWO CALLS -/
abbrev rT : Type := (Nat × (Nat → Nat)) × (Nat × (Nat → Nat)) × (Int32 × Int32) × (Nat × (Nat → Nat))
def rH (R : rT) : Nat := R.1.1
def rV (R : rT) : Nat → Nat := R.1.2
def rF (R : rT) : Nat := R.2.1.1
def rX (R : rT) : Nat → Nat := R.2.1.2
def rE (R : rT) : Int32 := R.2.2.1.1
def rG (R : rT) : Int32 := R.2.2.1.2
def rL (R : rT) : Nat := R.2.2.2.1
def rO (R : rT) : Nat → Nat := R.2.2.2.2
/-- the class: what calls change (v, the history), and the rest -/
def ICv (μ : mmT) (z : Nat) (v : Nat → Nat) (ct : Nat) (V : Nat → Nat → Nat) : Prop := St μ (z + 1) v ∧ Sf μ (z + 44) ∧ Sf μ (z + 87) ∧ ∃ nx, HC μ z nx ct V
def ICs (μ : mmT) (z : Nat) (R : rT) : Prop := mI μ 295 z = nI (rH R) ∧ Sf μ (z + 130) ∧ (rH R = 1 → St μ (z + 130) (rV R))
def ICt (μ : mmT) (z : Nat) (R : rT) : Prop := mI μ 194 (z + 519) = nI (rF R) ∧ ∀ i, i < rF R → mA μ (z + 520) i = nI (rX R i)
def ICe (μ : mmT) (z : Nat) (R : rT) : Prop := mI μ 296 z = rE R ∧ mI μ 297 z = rG R
def ICo (μ : mmT) (z : Nat) (R : rT) : Prop := mI μ 1 (z + 582) = 0 ∧ mI μ 3 (z + 582) = nI (rL R) ∧ ∀ i, i < rL R → mA μ (z + 583) i = nI (rO R i)
def ICr (μ : mmT) (z : Nat) (R : rT) : Prop := ICs μ z R ∧ ICt μ z R ∧ ICe μ z R ∧ ICo μ z R
/-- a free crow has no minutes left -/
def CrZ (v : Nat → Nat) : Prop := ∀ c, c < v 1 → v (138 + 2 * c) = 0 → v (138 + 2 * c + 1) = 0
def JB (B c : Nat) (v : Nat → Nat) : Prop := J B 16 v ∧ v 3 ≤ c ∧ CrZ v ∧ EE v
def JR (B c : Nat) (R : rT) : Prop := rH R ≤ 1 ∧ (rH R = 1 → JB B c (rV R)) ∧ rF R ≤ 60 ∧ (∀ i, i < rF R → 32 ≤ rX R i ∧ rX R i ≤ 126) ∧ rL R ≤ 16 ∧ ∀ i, i < rL R → rO R i < 128
def JV (B c : Nat) (v : Nat → Nat) (ct : Nat) (V : Nat → Nat → Nat) : Prop := JB B c v ∧ ct ≤ 8 ∧ ∀ k, k < ct → JB B c (V k)
section INVW
variable {G : mgT} {μ ν ρ : mmT} {z a b c c2 m i F nx ct : Nat} {S S2 : cT} {v w v0 : Nat → Nat} {V : Nat → Nat → Nat} {R : rT} {P P2 : Nat → Prop} {B B2 N : Nat}
theorem ICv_ag (h : ICv μ z v ct V) (g : Ag z μ ν P) (hP : ∀ b, (z + 1 ≤ b ∧ b < z + 130) ∨ (z + 173 ≤ b ∧ b < z + 519) → ¬ P b) : ICv ν z v ct V :=
  ⟨St_ag h.1 g (fun b h1 h2 => hP b (by omega)), Sf_ag h.2.1 g (fun b h1 h2 => hP b (by omega)), Sf_ag h.2.2.1 g (fun b h1 h2 => hP b (by omega)), h.2.2.2.imp fun _ q => HC_ag q g (fun b h1 h2 => hP b (by omega))⟩
theorem ICs_ag (h : ICs μ z R) (g : Ag z μ ν P) (h0 : mI ν 295 z = mI μ 295 z) (hP : ∀ b, z + 130 ≤ b ∧ b < z + 173 → ¬ P b) : ICs ν z R :=
  ⟨h0.trans h.1, Sf_ag h.2.1 g (fun b h1 h2 => hP b ⟨h1, by omega⟩), fun q => St_ag (h.2.2 q) g (fun b h1 h2 => hP b ⟨h1, by omega⟩)⟩
theorem ICt_ag (h : ICt μ z R) (g : Ag z μ ν P) (hP : ∀ b, z + 519 ≤ b ∧ b < z + 582 → ¬ P b) : ICt ν z R :=
  ⟨(g.I (hP _ (by omega))).trans h.1, fun i hi => (g.A (hP _ (by omega))).trans (h.2 i hi)⟩
theorem ICe_ag (h : ICe μ z R) (h1 : mI ν 296 z = mI μ 296 z) (h2 : mI ν 297 z = mI μ 297 z) : ICe ν z R := ⟨h1.trans h.1, h2.trans h.2⟩
theorem ICo_ag (h : ICo μ z R) (g : Ag z μ ν P) (hP : ∀ b, z + 582 ≤ b ∧ b < z + 584 → ¬ P b) : ICo ν z R :=
  ⟨(g.I (hP _ (by omega))).trans h.1, (g.I (hP _ (by omega))).trans h.2.1, fun i hi => (g.A (hP _ (by omega))).trans (h.2.2 i hi)⟩
theorem ICr_ag (h : ICr μ z R) (g : Ag z μ ν P) (hP : ∀ b, b = z ∨ (z + 130 ≤ b ∧ b < z + 173) ∨ (z + 519 ≤ b ∧ b < z + 584) → ¬ P b) : ICr ν z R :=
  ⟨ICs_ag h.1 g (g.I (hP _ (by omega))) (fun b q => hP b (by omega)), ICt_ag h.2.1 g (fun b q => hP b (by omega)), ICe_ag h.2.2.1 (g.I (hP _ (by omega))) (g.I (hP _ (by omega))), ICo_ag h.2.2.2 g (fun b q => hP b (by omega))⟩
theorem JB_mono (h : JB B c v) (h1 : B ≤ B2) (h2 : c ≤ c2) : JB B2 c2 v := ⟨J_mono h.1 h1, Nat.le_trans h.2.1 h2, h.2.2⟩
theorem JR_mono (h : JR B c R) (h1 : B ≤ B2) (h2 : c ≤ c2) : JR B2 c2 R := ⟨h.1, fun q => JB_mono (h.2.1 q) h1 h2, h.2.2⟩
theorem JV_mono (h : JV B c v ct V) (h1 : B ≤ B2) (h2 : c ≤ c2) : JV B2 c2 v ct V := ⟨JB_mono h.1 h1 h2, h.2.1, fun k hk => JB_mono (h.2.2 k hk) h1 h2⟩
theorem JV_push (h : JV B c v ct V) (h1 : B ≤ B2) (h2 : c ≤ c2) (h3 : JB B2 c2 w) : JV B2 c2 w (ctP ct) (vP ct V v) := by
  refine ⟨h3, by have := h.2.1; unfold ctP; split <;> omega, fun k hk => ?_⟩
  have h8 := h.2.1
  unfold ctP at hk
  unfold vP
  by_cases c8 : ct = 8
  · rw [if_pos c8] at hk ⊢
    show JB _ _ (if k = 7 then v else V (k + 1))
    by_cases y : k = 7
    · rw [if_pos y]; exact JB_mono h.1 h1 h2
    · rw [if_neg y]; exact JB_mono (h.2.2 _ (by omega)) h1 h2
  · rw [if_neg c8] at hk ⊢
    show JB _ _ (if k = ct then v else V k)
    by_cases y : k = ct
    · rw [if_pos y]; exact JB_mono h.1 h1 h2
    · rw [if_neg y]; exact JB_mono (h.2.2 _ (by omega)) h1 h2
/-- a change of the class: the state before is kept, the change is tried, and settled -/
abbrev Pc (z : Nat) : Nat → Prop := fun b => (z + 1 ≤ b ∧ b < z + 87) ∨ (z + 173 ≤ b ∧ b < z + 519)
theorem t_settle_done {Q : Int32 → mmT → Prop} {X : String → mmT → Prop} {k : Nat} (hk : k < 2 ^ 31) (hT : ST ρ z) (hh : HC ρ z nx ct V) (s1 : St ρ (z + 1) w) (s2 : St ρ (z + 44) v) (s3 : Sf ρ (z + 87)) (l : Lim v)
    (hq : ∀ σ, Ag z ρ σ (fun b => z + 173 ≤ b ∧ b < z + 519) → ICv σ z w (ctP ct) (vP ct V v) → Q (nI k) σ) : w_X10_settle G ρ z (nI k) Q X := by
  have q1 : ¬ nI k = -2 := fun e => by
    have := congrArg Int32.toInt e
    rw [nI_toInt hk] at this
    have h2 : (-2 : Int32).toInt = -2 := by decide
    omega
  have q2 : ¬ nI k = -3 := fun e => by
    have := congrArg Int32.toInt e
    rw [nI_toInt hk] at this
    have h2 : (-3 : Int32).toInt = -3 := by decide
    omega
  have q3 : ¬ nI k = -4 := fun e => by
    have := congrArg Int32.toInt e
    rw [nI_toInt hk] at this
    have h2 : (-4 : Int32).toInt = -4 := by decide
    omega
  unfold w_X10_settle
  refine ⟨fun _ => ⟨fun _ => ⟨fun _ => ⟨fun _ => ⟨hT.kz, _, hT.z5, hT.h, ?_⟩, fun e => absurd e q3⟩, fun e => absurd e q2⟩, fun e => absurd e q1⟩, fun e => absurd e (nI_m1 hk)⟩
  rw [hT.z2]
  exact t_remember hT hh s2 l (fun σ g h2 => hq σ g ⟨St_ag s1 g (fun b h1 h2 q => by omega), Sf_ag s2.f g (fun b h1 h2 q => by omega), Sf_ag s3 g (fun b h1 h2 q => by omega), _, h2⟩)
theorem t_settle_1 {Q : Int32 → mmT → Prop} {X : String → mmT → Prop} (h : X "java/lang/IllegalArgumentException" ρ) : w_X10_settle G ρ z (-1) Q X := by
  unfold w_X10_settle
  exact ⟨fun e => absurd rfl e, fun _ => h⟩
theorem t_settle_2 {Q : Int32 → mmT → Prop} {X : String → mmT → Prop} (h : X "java/lang/IllegalStateException" ρ) : w_X10_settle G ρ z (-2) Q X := by
  unfold w_X10_settle
  exact ⟨fun _ => ⟨fun e => absurd rfl e, fun _ => h⟩, fun e => absurd e (by decide)⟩
theorem t_settle_3 {Q : Int32 → mmT → Prop} {X : String → mmT → Prop} (h : X "java/lang/IndexOutOfBoundsException" ρ) : w_X10_settle G ρ z (-3) Q X := by
  unfold w_X10_settle
  exact ⟨fun _ => ⟨fun _ => ⟨fun e => absurd rfl e, fun _ => h⟩, fun e => absurd e (by decide)⟩, fun e => absurd e (by decide)⟩
theorem t_settle_4 {Q : Int32 → mmT → Prop} {X : String → mmT → Prop} (h : X "java/util/NoSuchElementException" ρ) : w_X10_settle G ρ z (-4) Q X := by
  unfold w_X10_settle
  exact ⟨fun _ => ⟨fun _ => ⟨fun _ => ⟨fun e => absurd rfl e, fun _ => h⟩, fun e => absurd e (by decide)⟩, fun e => absurd e (by decide)⟩, fun e => absurd e (by decide)⟩
theorem t_chg {Q : Int32 → mmT → Prop} {X : String → mmT → Prop} (W : mmT → Nat → (Int32 → mmT → Prop) → Prop) (hT : ST μ z) (hI : ICv μ z v ct V) (l : Lim v)
    (h : ∀ ν S, SS ν (z + 1) → Rel S v 4 16 → (∀ k w S', k < 2 ^ 31 → Rel S' w 4 16 → (∀ ρ, Ag z μ ρ (Pc z) → ICv ρ z w (ctP ct) (vP ct V v) → Q (nI k) ρ) → mK (CT ν (z + 1) S') z = 10 ∧ w_X10_settle G (CT ν (z + 1) S') z (nI k) Q X) →
      (∀ x E, (∀ ρ, X E ρ → w_X10_settle G ρ z x Q X) → (∀ ρ, Ag z μ ρ (Pc z) → ICv ρ z v ct V → X E ρ) → mK (CT ν (z + 1) S) z = 10 ∧ w_X10_settle G (CT ν (z + 1) S) z x Q X) →
      W (CT ν (z + 1) S) (z + 1) (fun u ρ => mK ρ z = 10 ∧ w_X10_settle G ρ z u Q X)) :
    mK μ z = 10 ∧ ∃ a2, mR μ 289 z = some a2 ∧ (mK μ a2 = 8 ∧ w_X8_copyFrom G μ a2 (mR μ 288 z) (fun μ5 => mK μ5 z = 10 ∧ ∃ a7, mR μ5 288 z = some a7 ∧ (mK μ5 a7 = 8 ∧ W μ5 a7 (fun u10 μ11 => mK μ11 z = 10 ∧ w_X10_settle G μ11 z u10 Q X)))) := by
  obtain ⟨i1, i2, i3, nx, i4⟩ := hI
  refine ⟨hT.kz, _, hT.z2, hT.s2.1, ?_⟩
  rw [hT.z1]
  refine w_copy (z := z) R0_2 hT.s2 hT.s1 (by omega) i2 i1 l (fun ν g s => ?_)
  have hT2 := hT.ag g
  have j1 : St ν (z + 1) v := St_ag i1 g (fun b h1 h2 q => by omega)
  have j3 : Sf ν (z + 87) := Sf_ag i3 g (fun b h1 h2 q => by omega)
  have j4 : HC ν z nx ct V := HC_ag i4 g (fun b h1 h2 q => by omega)
  refine ⟨hT2.kz, _, hT2.z1, hT2.s1.1, ?_⟩
  obtain ⟨S, e1, r1⟩ := j1
  have := h ν S hT2.s1 r1 (fun k w S' hk r' hq => ?_) (fun x E hx hq => ?_)
  · rw [BT_self e1] at this
    exact this
  · have g2 : Ag z ν (CT ν (z + 1) S') (fun b => z + 1 ≤ b ∧ b < z + 1 + 43) := Ag_CT R0_1
    have hT3 := hT2.ag g2
    refine ⟨hT3.kz, t_settle_done hk hT3 (HC_ag j4 g2 (fun b h1 h2 q => by omega)) (St_CT r') (St_ag s g2 (fun b h1 h2 q => by omega)) (Sf_ag j3 g2 (fun b h1 h2 q => by omega)) l (fun σ g3 h3 => hq σ (((g.tr g2).tr g3).up (fun b hb => by
      show (z + 1 ≤ b ∧ b < z + 87) ∨ (z + 173 ≤ b ∧ b < z + 519)
      omega)) h3)⟩
  · rw [BT_self e1]
    refine ⟨hT2.kz, hx ν (hq ν (g.up (fun b hb => by
      show (z + 1 ≤ b ∧ b < z + 87) ∨ (z + 173 ≤ b ∧ b < z + 519)
      omega)) ⟨⟨S, e1, r1⟩, s.f, j3, nx, j4⟩)⟩
end INVW

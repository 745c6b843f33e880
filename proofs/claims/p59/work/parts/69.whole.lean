/-! WHOLE MEMORY: where two memories agree, what a block holds -/
def R0 (z b : Nat) : Prop := b = z + 4 ∨ b = z + 47 ∨ b = z + 90 ∨ b = z + 133 ∨ ∃ i, i < 8 ∧ b = z + (175 + 43 * i) + 3
def Ag (z : Nat) (μ ν : mmT) (P : Nat → Prop) : Prop := (mK ν = mK μ ∧ mN ν = mN μ ∧ mR ν = mR μ) ∧ (∀ b, ¬ P b → (∀ F, mI ν F b = mI μ F b) ∧ (∀ i, mA ν b i = mA μ b i) ∧ (∀ i, mB ν b i = mB μ b i)) ∧ (∀ b, ¬ R0 z b → ∀ i, mB ν b i = mB μ b i) ∧ (mL ν = mL μ ∧ mD ν = mD μ)
section WHOLE
variable {G : mgT} {μ ν ρ : mmT} {z a b c m i F : Nat} {S S2 : cT} {v w : Nat → Nat} {P P2 : Nat → Prop}
theorem Ag.k (h : Ag z μ ν P) : mK ν = mK μ := h.1.1
theorem Ag.n (h : Ag z μ ν P) : mN ν = mN μ := h.1.2.1
theorem Ag.r (h : Ag z μ ν P) : mR ν = mR μ := h.1.2.2
theorem Ag.I (h : Ag z μ ν P) (hb : ¬ P b) : mI ν F b = mI μ F b := (h.2.1 b hb).1 F
theorem Ag.A (h : Ag z μ ν P) (hb : ¬ P b) : mA ν b i = mA μ b i := (h.2.1 b hb).2.1 i
theorem Ag.Bb (h : Ag z μ ν P) (hb : ¬ P b) : mB ν b i = mB μ b i := (h.2.1 b hb).2.2 i
theorem Ag.B0 (h : Ag z μ ν P) (hb : ¬ R0 z b) : mB ν b i = mB μ b i := h.2.2.1 b hb i
theorem Ag.L (h : Ag z μ ν P) : mL ν = mL μ := h.2.2.2.1
theorem Ag.D (h : Ag z μ ν P) : mD ν = mD μ := h.2.2.2.2
theorem Ag_rf : Ag z μ μ P := ⟨⟨rfl, rfl, rfl⟩, fun _ _ => ⟨fun _ => rfl, fun _ => rfl, fun _ => rfl⟩, fun _ _ _ => rfl, rfl, rfl⟩
theorem Ag.tr (h : Ag z μ ν P) (h2 : Ag z ν ρ P2) : Ag z μ ρ (fun b => P b ∨ P2 b) :=
  ⟨⟨h2.k.trans h.k, h2.n.trans h.n, h2.r.trans h.r⟩, fun _ hb => ⟨fun _ => (h2.I (fun q => hb (Or.inr q))).trans (h.I (fun q => hb (Or.inl q))), fun _ => (h2.A (fun q => hb (Or.inr q))).trans (h.A (fun q => hb (Or.inl q))), fun _ => (h2.Bb (fun q => hb (Or.inr q))).trans (h.Bb (fun q => hb (Or.inl q)))⟩, fun _ hb _ => (h2.B0 hb).trans (h.B0 hb), h2.L.trans h.L, h2.D.trans h.D⟩
theorem Ag.up (h : Ag z μ ν P) (hP : ∀ b, P b → P2 b) : Ag z μ ν P2 := ⟨h.1, fun b hb => h.2.1 b (fun q => hb (hP b q)), h.2.2⟩
theorem Ag_CT (h : R0 z (a + 3)) : Ag z μ (CT μ a S) (fun b => a ≤ b ∧ b < a + 43) :=
  ⟨⟨rfl, rfl, rfl⟩, fun _ hb => ⟨fun _ => CT_Io hb, fun _ => CT_Ao hb, fun _ => CT_Bo (fun q => hb (by omega))⟩, fun _ hb _ => CT_Bo (fun q => hb (q ▸ h)), rfl, rfl⟩
theorem Ag_VT : Ag z μ (VT μ m v) (fun b => b = m + 1) := ⟨⟨rfl, rfl, rfl⟩, fun _ hb => ⟨fun _ => rfl, fun _ => VT_Ao hb, fun _ => rfl⟩, fun _ _ _ => rfl, rfl, rfl⟩
theorem Ag_AT {g : Nat → Int32} : Ag z μ (AT μ c g) (fun b => b = c) := ⟨⟨rfl, rfl, rfl⟩, fun _ hb => ⟨fun _ => rfl, fun _ => AT_Ao hb, fun _ => rfl⟩, fun _ _ _ => rfl, rfl, rfl⟩
theorem sI_o {x : Int32} {G' : Nat} (h : ¬ (G' = F ∧ b = c)) : mI (sI μ F c x) G' b = mI μ G' b := if_neg h
theorem sI_e {x : Int32} : mI (sI μ F c x) F c = x := if_pos ⟨rfl, rfl⟩
theorem sA_o {x : Int32} {j : Nat} (h : ¬ (b = c ∧ j = i)) : mA (sA μ c i x) b j = mA μ b j := if_neg h
theorem sA_e {x : Int32} : mA (sA μ c i x) c i = x := if_pos ⟨rfl, rfl⟩
theorem Ag_sI {x : Int32} : Ag z μ (sI μ F c x) (fun b => b = c) := ⟨⟨rfl, rfl, rfl⟩, fun _ hb => ⟨fun _ => sI_o (fun q => hb q.2), fun _ => rfl, fun _ => rfl⟩, fun _ _ _ => rfl, rfl, rfl⟩
theorem Ag_sA {x : Int32} : Ag z μ (sA μ c i x) (fun b => b = c) := ⟨⟨rfl, rfl, rfl⟩, fun _ hb => ⟨fun _ => rfl, fun _ => sA_o (fun q => hb q.1), fun _ => rfl⟩, fun _ _ _ => rfl, rfl, rfl⟩
theorem SS_ag (h : SS μ a) (g : Ag z μ ν P) (n1 : ¬ R0 z (a + 1)) (n2 : ¬ R0 z (a + 2)) : SS ν a := by
  obtain ⟨h0, h1, h2, h3, h4, h5, h6⟩ := h
  unfold SS
  rw [g.k, g.n, g.r]
  exact ⟨h0, h1, h2, h3, fun i hi => ⟨(g.B0 n1).trans (h4 i hi).1, (h4 i hi).2⟩, fun i hi => ⟨(g.B0 n2).trans (h5 i hi).1, (h5 i hi).2⟩, h6⟩
/-- block a holds S -/
def BT (μ : mmT) (a : Nat) (S : cT) : Prop := (∀ F k, k < 43 → mI μ F (a + k) = cF S F k) ∧ (∀ k i, k < 43 → mA μ (a + k) i = cA S k i) ∧ (∀ i, mB μ (a + 3) i = some (a + (27 + cP S i)))
theorem BT_self (h : BT μ a S) : CT μ a S = μ := by
  refine mm_ext rfl rfl ?_ rfl ?_ ?_ rfl rfl
  · funext F b
    show (if a ≤ b ∧ b < a + 43 then cF S F (b - a) else mI μ F b) = mI μ F b
    by_cases hb : a ≤ b ∧ b < a + 43
    · rw [if_pos hb, ← h.1 F (b - a) (by omega), show a + (b - a) = b by omega]
    · rw [if_neg hb]
  · funext b i
    show (if a ≤ b ∧ b < a + 43 then cA S (b - a) i else mA μ b i) = mA μ b i
    by_cases hb : a ≤ b ∧ b < a + 43
    · rw [if_pos hb, ← h.2.1 (b - a) i (by omega), show a + (b - a) = b by omega]
    · rw [if_neg hb]
  · funext b i
    show (if b = a + 3 then some (a + (27 + cP S i)) else mB μ b i) = mB μ b i
    by_cases hb : b = a + 3
    · rw [if_pos hb, hb, h.2.2]
    · rw [if_neg hb]
theorem BT_CT : BT (CT μ a S) a S := ⟨fun _ _ hk => CT_I hk, fun _ _ hk => CT_A hk, fun _ => CT_B⟩
theorem BT_ag (h : BT μ a S) (g : Ag z μ ν P) (hP : ∀ b, a ≤ b → b < a + 43 → ¬ P b) : BT ν a S :=
  ⟨fun _ k hk => (g.I (hP _ (by omega) (by omega))).trans (h.1 _ k hk), fun k _ hk => (g.A (hP _ (by omega) (by omega))).trans (h.2.1 k _ hk), fun _ => (g.Bb (hP _ (by omega) (by omega))).trans (h.2.2 _)⟩
theorem VT_self (h : ∀ i, mA μ (m + 1) i = nI (v i)) : VT μ m v = μ := by
  refine mm_ext rfl rfl rfl rfl ?_ rfl rfl rfl
  funext b i
  show (if b = m + 1 then nI (v i) else mA μ b i) = mA μ b i
  by_cases hb : b = m + 1
  · rw [if_pos hb, hb, h]
  · rw [if_neg hb]
/-- a State that says v, a free one -/
def St (μ : mmT) (a : Nat) (v : Nat → Nat) : Prop := ∃ S, BT μ a S ∧ Rel S v 4 16
def Sf (μ : mmT) (a : Nat) : Prop := ∃ S, BT μ a S ∧ RelP S ∧ RelZ S
theorem St.f (h : St μ a v) : Sf μ a := h.elim (fun S q => ⟨S, q.1, q.2.2.2.2.2.2.1, q.2.2.2.2.2.2.2⟩)
theorem St_ag (h : St μ a v) (g : Ag z μ ν P) (hP : ∀ b, a ≤ b → b < a + 43 → ¬ P b) : St ν a v := h.elim (fun S q => ⟨S, BT_ag q.1 g hP, q.2⟩)
theorem Sf_ag (h : Sf μ a) (g : Ag z μ ν P) (hP : ∀ b, a ≤ b → b < a + 43 → ¬ P b) : Sf ν a := h.elim (fun S q => ⟨S, BT_ag q.1 g hP, q.2⟩)
theorem wS {W : mmT → Prop} (h : St μ a v) (k : ∀ S, Rel S v 4 16 → W (CT μ a S)) : W μ := h.elim (fun S q => BT_self q.1 ▸ k S q.2)
theorem wV {W : mmT → Prop} (h : ∀ i, mA μ (m + 1) i = nI (v i)) (k : W (VT μ m v)) : W μ := VT_self h ▸ k
theorem St_CT (h : Rel S v 4 16) : St (CT μ a S) a v := ⟨S, BT_CT, h⟩
/-- a State is copied -/
theorem w_copy {Q : mmT → Prop} (hR : R0 z (a + 3)) (hsA : SS μ a) (hsC : SS μ c) (hd : a + 43 ≤ c ∨ c + 43 ≤ a) (fa : Sf μ a) (sc : St μ c v) (l : Lim v) (h : ∀ ν, Ag z μ ν (fun b => a ≤ b ∧ b < a + 43) → St ν a v → Q ν) : w_X8_copyFrom G μ a (some c) Q := by
  obtain ⟨S, q1, q2, q3⟩ := fa
  obtain ⟨S2, r1, r2⟩ := sc
  have e : CT (CT μ c S2) a S = μ := by rw [BT_self r1, BT_self q1]
  have := t_copyR (Q := Q) (G := G) hsA hsC hd q2 q3 l r2 (fun S' r' => by
    rw [BT_self r1]
    exact h _ (Ag_CT hR) (St_CT r'))
  rw [e] at this
  exact this
end WHOLE

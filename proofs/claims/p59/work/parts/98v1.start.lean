/-! THE START: what the constructors leave -/
section START
variable {G : mgT} {μ ν ρ : mmT} {z a b c i j k F n o lo lo2 ci : Nat} {x : Int32} {y : Option Nat}
def Fr (lo : Nat) (μ ν : mmT) : Prop := ∀ b, b < lo → (mK ν b = mK μ b ∧ mN ν b = mN μ b) ∧ (∀ F, mI ν F b = mI μ F b) ∧ (∀ F, mR ν F b = mR μ F b) ∧ (∀ i, mA ν b i = mA μ b i) ∧ (∀ i, mB ν b i = mB μ b i)
theorem Fr_rf : Fr lo μ μ := fun _ _ => ⟨⟨rfl, rfl⟩, fun _ => rfl, fun _ => rfl, fun _ => rfl, fun _ => rfl⟩
theorem Fr.tr (h : Fr lo μ ν) (h2 : Fr lo ν ρ) : Fr lo μ ρ := fun b q => ⟨⟨(h2 b q).1.1.trans (h b q).1.1, (h2 b q).1.2.trans (h b q).1.2⟩, fun F => ((h2 b q).2.1 F).trans ((h b q).2.1 F), fun F => ((h2 b q).2.2.1 F).trans ((h b q).2.2.1 F), fun F => ((h2 b q).2.2.2.1 F).trans ((h b q).2.2.2.1 F), fun F => ((h2 b q).2.2.2.2 F).trans ((h b q).2.2.2.2 F)⟩
theorem Fr.dn (h : Fr lo μ ν) (hl : lo2 ≤ lo) : Fr lo2 μ ν := fun b q => h b (Nat.lt_of_lt_of_le q hl)
theorem nA_K (h : b ≠ a) : mK (nA μ a j n) b = mK μ b := if_neg h
theorem nA_Ke : mK (nA μ a j n) a = j + 32 := if_pos rfl
theorem nA_N (h : b ≠ a) : mN (nA μ a j n) b = mN μ b := if_neg h
theorem nA_Ne : mN (nA μ a j n) a = n := if_pos rfl
theorem nA_A (h : b ≠ a) : mA (nA μ a j n) b i = mA μ b i := if_neg h
theorem nA_Ae : mA (nA μ a j n) a i = 0 := if_pos rfl
theorem nA_B (h : b ≠ a) : mB (nA μ a j n) b i = mB μ b i := if_neg h
theorem nA_I : mI (nA μ a j n) = mI μ := rfl
theorem nA_R : mR (nA μ a j n) = mR μ := rfl
theorem nO_K (h : b ≠ a) : mK (nO μ a ci) b = mK μ b := if_neg h
theorem nO_Ke : mK (nO μ a ci) a = ci + 1 := if_pos rfl
theorem nO_N : mN (nO μ a ci) = mN μ := rfl
theorem nO_I (h : b ≠ a) : mI (nO μ a ci) F b = mI μ F b := if_neg h
theorem nO_Ie : mI (nO μ a ci) F a = 0 := if_pos rfl
theorem nO_R (h : b ≠ a) : mR (nO μ a ci) F b = mR μ F b := if_neg h
theorem nO_A : mA (nO μ a ci) = mA μ := rfl
theorem nO_B : mB (nO μ a ci) = mB μ := rfl
theorem sB_o {G2 : Nat} (h : ¬ (b = a ∧ G2 = i)) : mB (sB μ a i y) b G2 = mB μ b G2 := if_neg h
theorem sB_e : mB (sB μ a i y) a i = y := if_pos ⟨rfl, rfl⟩
theorem Fr_nA (h : lo ≤ a) : Fr lo μ (nA μ a j n) := fun b q => ⟨⟨nA_K (by omega), nA_N (by omega)⟩, fun _ => by rw [nA_I], fun _ => by rw [nA_R], fun _ => nA_A (by omega), fun _ => nA_B (by omega)⟩
theorem Fr_nO (h : lo ≤ a) : Fr lo μ (nO μ a ci) := fun b q => ⟨⟨nO_K (by omega), by rw [nO_N]⟩, fun _ => nO_I (by omega), fun _ => nO_R (by omega), fun _ => by rw [nO_A], fun _ => by rw [nO_B]⟩
theorem Fr_sI (h : lo ≤ c) : Fr lo μ (sI μ F c x) := fun b q => ⟨⟨rfl, rfl⟩, fun _ => sI_o (by omega), fun _ => by rw [sI_R], fun _ => sI_A, fun _ => rfl⟩
theorem Fr_sR (h : lo ≤ c) : Fr lo μ (sR μ F c y) := fun b q => ⟨⟨rfl, rfl⟩, fun _ => by rw [sR_I], fun _ => sR_o (by omega), fun _ => rfl, fun _ => rfl⟩
theorem Fr_sB (h : lo ≤ c) : Fr lo μ (sB μ c i y) := fun b q => ⟨⟨rfl, rfl⟩, fun _ => rfl, fun _ => rfl, fun _ => rfl, fun _ => sB_o (by omega)⟩
def M39 (μ : mmT) : Prop := ∀ b, mK μ b = 39 → mN μ b = 16
theorem M39_nA (h : M39 μ) (hj : j + 32 = 39 → n = 16) : M39 (nA μ a j n) := fun b q => by
  by_cases e : b = a
  · subst e
    rw [nA_Ke] at q
    rw [nA_Ne]
    exact hj q
  · rw [nA_K e] at q
    rw [nA_N e]
    exact h b q
theorem M39_nO (h : M39 μ) (hc : ci + 1 ≠ 39) : M39 (nO μ a ci) := fun b q => by
  by_cases e : b = a
  · subst e
    rw [nO_Ke] at q
    exact absurd q hc
  · rw [nO_K e] at q
    rw [nO_N]
    exact h b q
theorem M39_sI (h : M39 μ) : M39 (sI μ F c x) := h
theorem M39_sR (h : M39 μ) : M39 (sR μ F c y) := h
theorem M39_sB (h : M39 μ) : M39 (sB μ c i y) := h
/-- a nest -/
theorem n_X6 {Q : mmT → Nat → Prop} (hk : mK μ o = 6) (hm : M39 μ) (h : ∀ ν, Fr o μ ν → M39 ν → mK ν o = 6 → (mR ν 160 o = some (o + 1) ∧ mR ν 161 o = some (o + 2) ∧ mK ν (o + 1) = 34 ∧ mK ν (o + 2) = 34 ∧ mN ν (o + 1) = 8 ∧ mN ν (o + 2) = 8) → Q ν (o + 3)) : w_X6_init G μ (o + 1) o Q := by
  have e1 : mK (nA μ (o + 1) 2 8) o = 6 := (nA_K (by omega)).trans hk
  have m1 : M39 (nA μ (o + 1) 2 8) := M39_nA hm (fun q => absurd q (by decide))
  have g1 : Fr o μ (nA μ (o + 1) 2 8) := Fr_nA (by omega)
  have k1 : mK (nA μ (o + 1) 2 8) (o + 1) = 34 := nA_Ke
  have n1 : mN (nA μ (o + 1) 2 8) (o + 1) = 8 := nA_Ne
  unfold w_X6_init
  refine ⟨e1, ?_⟩
  generalize nA μ (o + 1) 2 8 = μ1 at *
  have e2 : mK (nA (sR μ1 160 o (some (o + 1))) (o + 1 + 1) 2 8) o = 6 := (nA_K (by omega)).trans e1
  have m2 : M39 (nA (sR μ1 160 o (some (o + 1))) (o + 1 + 1) 2 8) := M39_nA (M39_sR m1) (fun q => absurd q (by decide))
  have g2 : Fr o μ (nA (sR μ1 160 o (some (o + 1))) (o + 1 + 1) 2 8) := (g1.tr (Fr_sR (by omega))).tr (Fr_nA (by omega))
  have k2 : mK (nA (sR μ1 160 o (some (o + 1))) (o + 1 + 1) 2 8) (o + 1) = 34 := (nA_K (by omega)).trans k1
  have n2 : mN (nA (sR μ1 160 o (some (o + 1))) (o + 1 + 1) 2 8) (o + 1) = 8 := (nA_N (by omega)).trans n1
  have k3 : mK (nA (sR μ1 160 o (some (o + 1))) (o + 1 + 1) 2 8) (o + 2) = 34 := nA_Ke
  have n3 : mN (nA (sR μ1 160 o (some (o + 1))) (o + 1 + 1) 2 8) (o + 2) = 8 := nA_Ne
  have r2 : mR (nA (sR μ1 160 o (some (o + 1))) (o + 1 + 1) 2 8) 160 o = some (o + 1) := by rw [nA_R]; exact sR_e
  refine ⟨e2, ?_⟩
  generalize nA (sR μ1 160 o (some (o + 1))) (o + 1 + 1) 2 8 = μ2 at *
  have e3 : mK (sR μ2 161 o (some (o + 1 + 1))) o = 6 := e2
  have m3 : M39 (sR μ2 161 o (some (o + 1 + 1))) := M39_sR m2
  have g3 : Fr o μ (sR μ2 161 o (some (o + 1 + 1))) := g2.tr (Fr_sR (by omega))
  have q3 : mK (sR μ2 161 o (some (o + 1 + 1))) (o + 1) = 34 ∧ mK (sR μ2 161 o (some (o + 1 + 1))) (o + 2) = 34 ∧ mN (sR μ2 161 o (some (o + 1 + 1))) (o + 1) = 8 ∧ mN (sR μ2 161 o (some (o + 1 + 1))) (o + 2) = 8 := ⟨k2, k3, n2, n3⟩
  have r3 : mR (sR μ2 161 o (some (o + 1 + 1))) 160 o = some (o + 1) := (sR_o (by omega)).trans r2
  have r4 : mR (sR μ2 161 o (some (o + 1 + 1))) 161 o = some (o + 2) := sR_e
  refine ⟨e3, ?_⟩
  generalize sR μ2 161 o (some (o + 1 + 1)) = μ3 at *
  exact ⟨e3, e3, e3, e3, h _ (((((g3.tr (Fr_sI (by omega))).tr (Fr_sI (by omega))).tr (Fr_sI (by omega))).tr (Fr_sI (by omega))).tr (Fr_sI (by omega))) m3 e3 ⟨r3, r4, q3⟩⟩
/-- a crow, a message, the totals, a command -/
theorem n_X2 {Q : mmT → Nat → Prop} (hk : mK μ o = 3) (hm : M39 μ) (h : ∀ ν, Fr o μ ν → M39 ν → mK ν o = 3 → mI ν 64 o = 0 → Q ν (o + 1)) : w_X2_init G μ (o + 1) o Q :=
  ⟨hk, hk, hk, h _ (((Fr_sI (by omega)).tr (Fr_sI (by omega))).tr (Fr_sI (by omega))) hm hk ((sI_o (by omega)).trans ((sI_o (by omega)).trans sI_e))⟩
theorem n_X5 {Q : mmT → Nat → Prop} (hk : mK μ o = 5) (hm : M39 μ) (h : ∀ ν, Fr o μ ν → M39 ν → mK ν o = 5 → mI ν 132 o = nI 119 → Q ν (o + 1)) : w_X5_init G μ (o + 1) o Q :=
  ⟨hk, hk, hk, hk, hk, hk, h _ ((((((Fr_sI (by omega)).tr (Fr_sI (by omega))).tr (Fr_sI (by omega))).tr (Fr_sI (by omega))).tr (Fr_sI (by omega))).tr (Fr_sI (by omega))) hm hk ((sI_o (by omega)).trans sI_e)⟩
theorem n_X1 {Q : mmT → Nat → Prop} (hk : mK μ o = 2) (hm : M39 μ) (h : ∀ ν, Fr o μ ν → M39 ν → mK ν o = 2 → Q ν (o + 1)) : w_X1_init G μ (o + 1) o Q :=
  ⟨hk, hk, hk, h _ (((Fr_sR (by omega)).tr (Fr_sI (by omega))).tr (Fr_sI (by omega))) hm hk⟩
theorem n_X9 {Q : mmT → Nat → Prop} (hk : mK μ o = 9) (hm : M39 μ) (h : ∀ ν, Fr o μ ν → M39 ν → mK ν o = 9 → (mI ν 256 o = nI 0 ∧ mI ν 257 o = nI 0 ∧ mI ν 258 o = nI 0 ∧ mI ν 259 o = nI 0 ∧ mI ν 260 o = nI 0 ∧ mI ν 261 o = nI 0 ∧ mI ν 262 o = nI 0) → Q ν (o + 1)) : w_X9_init G μ (o + 1) o Q :=
  ⟨hk, hk, hk, hk, hk, hk, hk, h _ (((((((Fr_sI (by omega)).tr (Fr_sI (by omega))).tr (Fr_sI (by omega))).tr (Fr_sI (by omega))).tr (Fr_sI (by omega))).tr (Fr_sI (by omega))).tr (Fr_sI (by omega))) hm hk
    ⟨(sI_o (by omega)).trans ((sI_o (by omega)).trans ((sI_o (by omega)).trans ((sI_o (by omega)).trans ((sI_o (by omega)).trans ((sI_o (by omega)).trans sI_e))))), (sI_o (by omega)).trans ((sI_o (by omega)).trans ((sI_o (by omega)).trans ((sI_o (by omega)).trans ((sI_o (by omega)).trans sI_e)))), (sI_o (by omega)).trans ((sI_o (by omega)).trans ((sI_o (by omega)).trans ((sI_o (by omega)).trans sI_e))), (sI_o (by omega)).trans ((sI_o (by omega)).trans ((sI_o (by omega)).trans sI_e)), (sI_o (by omega)).trans ((sI_o (by omega)).trans sI_e), (sI_o (by omega)).trans sI_e, sI_e⟩⟩
def Bs (ν : mmT) (o : Nat) : Prop := (mK ν o = 8 ∧ (mR ν 224 o = some (o + 1) ∧ mR ν 225 o = some (o + 2) ∧ mR ν 226 o = some (o + 3) ∧ mR ν 227 o = some (o + 4)) ∧ (mK ν (o + 1) = 40 ∧ mK ν (o + 2) = 38 ∧ mK ν (o + 3) = 39 ∧ mK ν (o + 4) = 9) ∧ (mN ν (o + 1) = 6 ∧ mN ν (o + 2) = 4 ∧ mN ν (o + 3) = 16)) ∧ (mI ν 228 o = nI 0 ∧ mI ν 229 o = nI 0 ∧ mI ν 230 o = nI 0 ∧ mI ν 231 o = nI 0 ∧ mI ν 232 o = nI 0) ∧ (mI ν 256 (o + 4) = nI 0 ∧ mI ν 257 (o + 4) = nI 0 ∧ mI ν 258 (o + 4) = nI 0 ∧ mI ν 259 (o + 4) = nI 0 ∧ mI ν 260 (o + 4) = nI 0 ∧ mI ν 261 (o + 4) = nI 0 ∧ mI ν 262 (o + 4) = nI 0)
theorem Fr.kk (g : Fr lo μ ν) (h : b < lo) : mK ν b = mK μ b := (g b h).1.1
theorem Fr.nn (g : Fr lo μ ν) (h : b < lo) : mN ν b = mN μ b := (g b h).1.2
theorem Fr.ii (g : Fr lo μ ν) (h : b < lo) : mI ν F b = mI μ F b := (g b h).2.1 F
theorem Fr.rr (g : Fr lo μ ν) (h : b < lo) : mR ν F b = mR μ F b := (g b h).2.2.1 F
theorem Fr.aa (g : Fr lo μ ν) (h : b < lo) : mA ν b i = mA μ b i := (g b h).2.2.2.1 i
theorem Fr.bb (g : Fr lo μ ν) (h : b < lo) : mB ν b i = mB μ b i := (g b h).2.2.2.2 i
theorem Bs_fr (h : Bs μ o) (g : Fr lo μ ν) (hl : o + 5 ≤ lo) : Bs ν o := by
  unfold Bs at h ⊢
  rw [g.kk (by omega), g.kk (by omega), g.kk (by omega), g.kk (by omega), g.kk (by omega), g.nn (by omega), g.nn (by omega), g.nn (by omega), g.rr (by omega), g.rr (by omega), g.rr (by omega), g.rr (by omega), g.ii (by omega), g.ii (by omega), g.ii (by omega), g.ii (by omega), g.ii (by omega), g.ii (by omega), g.ii (by omega), g.ii (by omega), g.ii (by omega), g.ii (by omega), g.ii (by omega), g.ii (by omega)]
  exact h
def NI (ν : mmT) (o i : Nat) : Prop := ∀ k, k < i → mB ν (o + 1) k = some (o + (5 + 3 * k)) ∧ mK ν (o + (5 + 3 * k)) = 6 ∧ mR ν 160 (o + (5 + 3 * k)) = some (o + (6 + 3 * k)) ∧ mR ν 161 (o + (5 + 3 * k)) = some (o + (7 + 3 * k)) ∧ mK ν (o + (6 + 3 * k)) = 34 ∧ mK ν (o + (7 + 3 * k)) = 34 ∧ mN ν (o + (6 + 3 * k)) = 8 ∧ mN ν (o + (7 + 3 * k)) = 8
def CI (ν : mmT) (o i : Nat) : Prop := ∀ k, k < i → mB ν (o + 2) k = some (o + (23 + k)) ∧ mK ν (o + (23 + k)) = 3 ∧ mI ν 64 (o + (23 + k)) = 0
def MI (ν : mmT) (o i : Nat) : Prop := ∀ k, k < i → mB ν (o + 3) k = some (o + (27 + k)) ∧ mK ν (o + (27 + k)) = 5 ∧ mI ν 132 (o + (27 + k)) = nI 119
theorem NI_fr (h : NI μ o i) (g : Fr lo μ ν) (hl : o + (5 + 3 * i) ≤ lo) (hl2 : o + 5 ≤ lo) : NI ν o i := fun k hk => by
  rw [g.bb (by omega), g.kk (by omega), g.kk (by omega), g.kk (by omega), g.nn (by omega), g.nn (by omega), g.rr (by omega), g.rr (by omega)]
  exact h k hk
theorem CI_fr (h : CI μ o i) (g : Fr lo μ ν) (hl : o + (23 + i) ≤ lo) : CI ν o i := fun k hk => by
  rw [g.bb (by omega), g.kk (by omega), g.ii (by omega)]
  exact h k hk
theorem MI_fr (h : MI μ o i) (g : Fr lo μ ν) (hl : o + (27 + i) ≤ lo) : MI ν o i := fun k hk => by
  rw [g.bb (by omega), g.kk (by omega), g.ii (by omega)]
  exact h k hk
theorem n_l121 {Q : mmT → Nat → Prop} {μ0 : mmT} (h : ∀ ν, Fr o μ0 ν → M39 ν → Bs ν o → NI ν o 6 → CI ν o 4 → MI ν o 16 → Q ν (o + 43)) : ∀ (d i : Nat) (μ : mmT), i + d = 16 → Fr o μ0 μ → M39 μ → Bs μ o → NI μ o 6 → CI μ o 4 → MI μ o i → w_X8_init_l121 G o Q (d + 1) (nI i) i μ (o + (27 + i))
  | 0, i, μ, hi, g, hm, hb, hN, hC, hM => by
    obtain rfl : i = 16 := by omega
    exact ⟨by decide, fun _ => h μ g hm hb hN hC hM, fun e => absurd (nI_le (Nat.le_refl _) (by decide)) e⟩
  | d + 1, i, μ, hi, g, hm, hb, hN, hC, hM => by
    refine ⟨by omega, fun e => absurd ((nI_leI (by decide) (by omega)).mp e) (by omega), fun _ => ⟨hb.1.1, nO_Ke, n_X5 (o := o + (27 + i)) nO_Ke (M39_nO hm (by decide)) (fun ν g1 m1 k1 k2 => ?_)⟩⟩
    have g2 : Fr (o + (27 + i)) μ ν := (Fr_nO (Nat.le_refl _)).tr g1
    have hb2 := Bs_fr hb g2 (by omega)
    have hM2 := MI_fr hM g2 (Nat.le_refl _)
    refine ⟨o + 3, hb.1.2.1.2.2.1, hb2.1.2.2.1.2.2.1, k1, ?_, ?_⟩
    · rw [hb2.1.2.2.2.2.2]; exact vp_in_nI (by omega) (by decide)
    rw [cl (by omega), nI_add]
    refine n_l121 h d (i + 1) _ (by omega) (((g.tr (g2.dn (by omega))).tr (Fr_sB (by omega)))) m1 hb2 (fun k hk => ?_) (fun k hk => ?_) (fun k hk => ?_)
    · rw [sB_o (by omega)]; exact NI_fr hN g2 (by omega) (by omega) k hk
    · rw [sB_o (by omega)]; exact CI_fr hC g2 (by omega) k hk
    · by_cases e : k = i
      · subst e
        exact ⟨sB_e, k1, k2⟩
      · rw [sB_o (by omega)]; exact hM2 k (by omega)
theorem n_l95 {Q : mmT → Nat → Prop} {μ0 : mmT} (h : ∀ ν, Fr o μ0 ν → M39 ν → Bs ν o → NI ν o 6 → CI ν o 4 → MI ν o 16 → Q ν (o + 43)) : ∀ (d i : Nat) (μ : mmT), i + d = 4 → Fr o μ0 μ → M39 μ → Bs μ o → NI μ o 6 → CI μ o i → w_X8_init_l95 G o Q (d + 1) (nI i) i μ (o + (23 + i))
  | 0, i, μ, hi, g, hm, hb, hN, hC => by
    obtain rfl : i = 4 := by omega
    exact ⟨by decide, fun _ => ⟨17, n_l121 h 16 0 μ rfl g hm hb hN hC (fun k hk => absurd hk (Nat.not_lt_zero _))⟩, fun e => absurd (nI_le (Nat.le_refl _) (by decide)) e⟩
  | d + 1, i, μ, hi, g, hm, hb, hN, hC => by
    refine ⟨by omega, fun e => absurd ((nI_leI (by decide) (by omega)).mp e) (by omega), fun _ => ⟨hb.1.1, nO_Ke, n_X2 (o := o + (23 + i)) nO_Ke (M39_nO hm (by decide)) (fun ν g1 m1 k1 k2 => ?_)⟩⟩
    have g2 : Fr (o + (23 + i)) μ ν := (Fr_nO (Nat.le_refl _)).tr g1
    have hb2 := Bs_fr hb g2 (by omega)
    have hC2 := CI_fr hC g2 (Nat.le_refl _)
    refine ⟨o + 2, hb.1.2.1.2.1, hb2.1.2.2.1.2.1, k1, ?_, ?_⟩
    · rw [hb2.1.2.2.2.2.1]; exact vp_in_nI (by omega) (by decide)
    rw [cl (by omega), nI_add]
    refine n_l95 h d (i + 1) _ (by omega) (((g.tr (g2.dn (by omega))).tr (Fr_sB (by omega)))) m1 hb2 (fun k hk => ?_) (fun k hk => ?_)
    · rw [sB_o (by omega)]; exact NI_fr hN g2 (by omega) (by omega) k hk
    · by_cases e : k = i
      · subst e
        exact ⟨sB_e, k1, k2⟩
      · rw [sB_o (by omega)]; exact hC2 k (by omega)
theorem n_l68 {Q : mmT → Nat → Prop} {μ0 : mmT} (h : ∀ ν, Fr o μ0 ν → M39 ν → Bs ν o → NI ν o 6 → CI ν o 4 → MI ν o 16 → Q ν (o + 43)) : ∀ (d i : Nat) (μ : mmT), i + d = 6 → Fr o μ0 μ → M39 μ → Bs μ o → NI μ o i → w_X8_init_l68 G o Q (d + 1) (nI i) i μ (o + (5 + 3 * i))
  | 0, i, μ, hi, g, hm, hb, hN => by
    obtain rfl : i = 6 := by omega
    exact ⟨by decide, fun _ => ⟨5, n_l95 h 4 0 μ rfl g hm hb hN (fun k hk => absurd hk (Nat.not_lt_zero _))⟩, fun e => absurd (nI_le (Nat.le_refl _) (by decide)) e⟩
  | d + 1, i, μ, hi, g, hm, hb, hN => by
    refine ⟨by omega, fun e => absurd ((nI_leI (by decide) (by omega)).mp e) (by omega), fun _ => ⟨hb.1.1, nO_Ke, n_X6 (o := o + (5 + 3 * i)) nO_Ke (M39_nO hm (by decide)) (fun ν g1 m1 k1 k2 => ?_)⟩⟩
    have g2 : Fr (o + (5 + 3 * i)) μ ν := (Fr_nO (Nat.le_refl _)).tr g1
    have hb2 := Bs_fr hb g2 (by omega)
    have hN2 := NI_fr hN g2 (Nat.le_refl _) (by omega)
    refine ⟨o + 1, hb.1.2.1.1, hb2.1.2.2.1.1, k1, ?_, ?_⟩
    · rw [hb2.1.2.2.2.1]; exact vp_in_nI (by omega) (by decide)
    rw [cl (by omega), nI_add]
    refine n_l68 h d (i + 1) _ (by omega) (((g.tr (g2.dn (by omega))).tr (Fr_sB (by omega)))) m1 hb2 (fun k hk => ?_)
    by_cases e : k = i
    · subst e
      obtain ⟨a1, a2, a3, a4, a5, a6⟩ := k2
      rw [show o + (5 + 3 * k) + 1 = o + (6 + 3 * k) by omega] at a1 a3 a5
      rw [show o + (5 + 3 * k) + 2 = o + (7 + 3 * k) by omega] at a2 a4 a6
      exact ⟨sB_e, k1, a1, a2, a3, a4, a5, a6⟩
    · rw [sB_o (by omega)]; exact hN2 k (by omega)
def SI (ν : mmT) (o : Nat) : Prop := Bs ν o ∧ NI ν o 6 ∧ CI ν o 4 ∧ MI ν o 16
theorem SI_fr (h : SI μ o) (g : Fr lo μ ν) (hl : o + 43 ≤ lo) : SI ν o := ⟨Bs_fr h.1 g (by omega), NI_fr h.2.1 g (by omega) (by omega), CI_fr h.2.2.1 g (by omega), MI_fr h.2.2.2 g (by omega)⟩
theorem n_X8 {Q : mmT → Nat → Prop} (hk : mK μ o = 8) (hm : M39 μ) (h : ∀ ν, Fr o μ ν → M39 ν → SI ν o → Q ν (o + 43)) : w_X8_init G μ (o + 1) o Q := by
  have e1 : mK (nA μ (o + 1) 8 6) o = 8 := (nA_K (by omega)).trans hk
  have m1 : M39 (nA μ (o + 1) 8 6) := M39_nA hm (fun q => absurd q (by decide))
  have g1 : Fr o μ (nA μ (o + 1) 8 6) := Fr_nA (by omega)
  have k1 : mK (nA μ (o + 1) 8 6) (o + 1) = 40 := nA_Ke
  have n1 : mN (nA μ (o + 1) 8 6) (o + 1) = 6 := nA_Ne
  unfold w_X8_init
  refine ⟨e1, ?_⟩
  generalize nA μ (o + 1) 8 6 = μ1 at *
  have e2 : mK (nA (sR μ1 224 o (some (o + 1))) (o + 1 + 1) 6 4) o = 8 := (nA_K (by omega)).trans e1
  have m2 : M39 (nA (sR μ1 224 o (some (o + 1))) (o + 1 + 1) 6 4) := M39_nA (M39_sR m1) (fun q => absurd q (by decide))
  have g2 : Fr o μ (nA (sR μ1 224 o (some (o + 1))) (o + 1 + 1) 6 4) := (g1.tr (Fr_sR (by omega))).tr (Fr_nA (by omega))
  have k2 : mK (nA (sR μ1 224 o (some (o + 1))) (o + 1 + 1) 6 4) (o + 1) = 40 ∧ mK (nA (sR μ1 224 o (some (o + 1))) (o + 1 + 1) 6 4) (o + 2) = 38 := ⟨(nA_K (by omega)).trans k1, nA_Ke⟩
  have n2 : mN (nA (sR μ1 224 o (some (o + 1))) (o + 1 + 1) 6 4) (o + 1) = 6 ∧ mN (nA (sR μ1 224 o (some (o + 1))) (o + 1 + 1) 6 4) (o + 2) = 4 := ⟨(nA_N (by omega)).trans n1, nA_Ne⟩
  have r2 : mR (nA (sR μ1 224 o (some (o + 1))) (o + 1 + 1) 6 4) 224 o = some (o + 1) := by rw [nA_R]; exact sR_e
  refine ⟨e2, ?_⟩
  generalize nA (sR μ1 224 o (some (o + 1))) (o + 1 + 1) 6 4 = μ2 at *
  have e3 : mK (nA (sR μ2 225 o (some (o + 1 + 1))) (o + 1 + 1 + 1) 7 16) o = 8 := (nA_K (by omega)).trans e2
  have m3 : M39 (nA (sR μ2 225 o (some (o + 1 + 1))) (o + 1 + 1 + 1) 7 16) := M39_nA (M39_sR m2) (fun _ => rfl)
  have g3 : Fr o μ (nA (sR μ2 225 o (some (o + 1 + 1))) (o + 1 + 1 + 1) 7 16) := (g2.tr (Fr_sR (by omega))).tr (Fr_nA (by omega))
  have k3 : mK (nA (sR μ2 225 o (some (o + 1 + 1))) (o + 1 + 1 + 1) 7 16) (o + 1) = 40 ∧ mK (nA (sR μ2 225 o (some (o + 1 + 1))) (o + 1 + 1 + 1) 7 16) (o + 2) = 38 ∧ mK (nA (sR μ2 225 o (some (o + 1 + 1))) (o + 1 + 1 + 1) 7 16) (o + 3) = 39 := ⟨(nA_K (by omega)).trans k2.1, (nA_K (by omega)).trans k2.2, nA_Ke⟩
  have n3 : mN (nA (sR μ2 225 o (some (o + 1 + 1))) (o + 1 + 1 + 1) 7 16) (o + 1) = 6 ∧ mN (nA (sR μ2 225 o (some (o + 1 + 1))) (o + 1 + 1 + 1) 7 16) (o + 2) = 4 ∧ mN (nA (sR μ2 225 o (some (o + 1 + 1))) (o + 1 + 1 + 1) 7 16) (o + 3) = 16 := ⟨(nA_N (by omega)).trans n2.1, (nA_N (by omega)).trans n2.2, nA_Ne⟩
  have r3 : mR (nA (sR μ2 225 o (some (o + 1 + 1))) (o + 1 + 1 + 1) 7 16) 224 o = some (o + 1) ∧ mR (nA (sR μ2 225 o (some (o + 1 + 1))) (o + 1 + 1 + 1) 7 16) 225 o = some (o + 2) := by
    rw [nA_R]; exact ⟨(sR_o (by omega)).trans r2, sR_e⟩
  refine ⟨e3, ?_⟩
  generalize nA (sR μ2 225 o (some (o + 1 + 1))) (o + 1 + 1 + 1) 7 16 = μ3 at *
  have q4 : (mR (sR μ3 226 o (some (o + 1 + 1 + 1))) 224 o = some (o + 1) ∧ mR (sR μ3 226 o (some (o + 1 + 1 + 1))) 225 o = some (o + 2) ∧ mR (sR μ3 226 o (some (o + 1 + 1 + 1))) 226 o = some (o + 3)) ∧ mK (sR μ3 226 o (some (o + 1 + 1 + 1))) o = 8 ∧ (mK (sR μ3 226 o (some (o + 1 + 1 + 1))) (o + 1) = 40 ∧ mK (sR μ3 226 o (some (o + 1 + 1 + 1))) (o + 2) = 38 ∧ mK (sR μ3 226 o (some (o + 1 + 1 + 1))) (o + 3) = 39) ∧ (mN (sR μ3 226 o (some (o + 1 + 1 + 1))) (o + 1) = 6 ∧ mN (sR μ3 226 o (some (o + 1 + 1 + 1))) (o + 2) = 4 ∧ mN (sR μ3 226 o (some (o + 1 + 1 + 1))) (o + 3) = 16) :=
    ⟨⟨(sR_o (by omega)).trans r3.1, (sR_o (by omega)).trans r3.2, sR_e⟩, e3, k3, n3⟩
  have m4 : M39 (sR μ3 226 o (some (o + 1 + 1 + 1))) := M39_sR m3
  have g4 : Fr o μ (sR μ3 226 o (some (o + 1 + 1 + 1))) := g3.tr (Fr_sR (by omega))
  generalize sR μ3 226 o (some (o + 1 + 1 + 1)) = μ4 at *
  refine ⟨nO_Ke, n_X9 (o := o + 1 + 1 + 1 + 1) nO_Ke (M39_nO m4 (by decide)) (fun ν g5 m5 k5 i5 => ?_)⟩
  have g6 : Fr (o + 4) μ4 ν := (Fr_nO (Nat.le_refl _)).tr g5
  have g7 : Fr o μ ν := g4.tr (g6.dn (by omega))
  obtain ⟨⟨r1, r2, r3⟩, ek, ⟨k1, k2, k3⟩, ⟨n1, n2, n3⟩⟩ := q4
  rw [← g6.rr (by omega)] at r1 r2 r3
  rw [← g6.kk (by omega)] at ek k1 k2 k3
  rw [← g6.nn (by omega)] at n1 n2 n3
  refine ⟨ek, ek, ek, ek, ek, ek, 7, n_l68 (μ0 := μ) (fun π a1 a2 a3 a4 a5 a6 => h π a1 a2 ⟨a3, a4, a5, a6⟩) 6 0 _ rfl ((((((g7.tr (Fr_sR (by omega))).tr (Fr_sI (by omega))).tr (Fr_sI (by omega))).tr (Fr_sI (by omega))).tr (Fr_sI (by omega))).tr (Fr_sI (by omega))) m5 ⟨⟨ek, ⟨(sR_o (by omega)).trans r1, (sR_o (by omega)).trans r2, (sR_o (by omega)).trans r3, sR_e⟩, ⟨k1, k2, k3, k5⟩, ⟨n1, n2, n3⟩⟩, ⟨?_, ?_, ?_, ?_, sI_e⟩, ?_⟩ (fun k hk => absurd hk (Nat.not_lt_zero _))⟩
  · exact (sI_o (by omega)).trans ((sI_o (by omega)).trans ((sI_o (by omega)).trans ((sI_o (by omega)).trans sI_e)))
  · exact (sI_o (by omega)).trans ((sI_o (by omega)).trans ((sI_o (by omega)).trans sI_e))
  · exact (sI_o (by omega)).trans ((sI_o (by omega)).trans sI_e)
  · exact (sI_o (by omega)).trans sI_e
  · have key : ∀ F, 256 ≤ F → mI (sI (sI (sI (sI (sI (sR ν 227 o (some (o + 1 + 1 + 1 + 1))) 228 o (nI 0)) 229 o (nI 0)) 230 o (nI 0)) 231 o (nI 0)) 232 o (nI 0)) F (o + 4) = mI ν F (o + 4) := fun F hF => (sI_o (by omega)).trans ((sI_o (by omega)).trans ((sI_o (by omega)).trans ((sI_o (by omega)).trans ((sI_o (by omega)).trans (by rw [sR_I])))))
    obtain ⟨b1, b2, b3, b4, b5, b6, b7⟩ := i5
    exact ⟨(key _ (by decide)).trans b1, (key _ (by decide)).trans b2, (key _ (by decide)).trans b3, (key _ (by decide)).trans b4, (key _ (by decide)).trans b5, (key _ (by decide)).trans b6, (key _ (by decide)).trans b7⟩
end START

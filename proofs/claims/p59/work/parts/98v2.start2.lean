/-! THE START: the history, the script, the text, the two objects -/
section START2
variable {G : mgT} {μ ν ρ μ0 : mmT} {z a b c i j k F n o lo lo2 ci : Nat} {x : Int32} {y : Option Nat}
def HB (ν : mmT) (o : Nat) : Prop := mK ν o = 4 ∧ mR ν 96 o = some (o + 1) ∧ mK ν (o + 1) = 41 ∧ mN ν (o + 1) = 8 ∧ mI ν 97 o = nI 0 ∧ mI ν 98 o = nI 0
def HL (ν : mmT) (o i : Nat) : Prop := ∀ k, k < i → mB ν (o + 1) k = some (o + (2 + 43 * k)) ∧ SI ν (o + (2 + 43 * k))
theorem HB_fr (h : HB μ o) (g : Fr lo μ ν) (hl : o + 2 ≤ lo) : HB ν o := by
  unfold HB at h ⊢
  rw [g.kk (by omega), g.kk (by omega), g.nn (by omega), g.rr (by omega), g.ii (by omega), g.ii (by omega)]
  exact h
theorem HL_fr (h : HL μ o i) (g : Fr lo μ ν) (hl : o + (2 + 43 * i) ≤ lo) : HL ν o i := fun k hk => by
  rw [g.bb (by omega)]
  exact ⟨(h k hk).1, SI_fr (h k hk).2 g (by omega)⟩
theorem SI_sB (h : SI μ o) (hc : c ≠ o + 1 ∧ c ≠ o + 2 ∧ c ≠ o + 3) : SI (sB μ c i y) o := by
  refine ⟨h.1, fun k hk => ?_, fun k hk => ?_, fun k hk => ?_⟩
  · rw [sB_o (by omega)]; exact h.2.1 k hk
  · rw [sB_o (by omega)]; exact h.2.2.1 k hk
  · rw [sB_o (by omega)]; exact h.2.2.2 k hk
theorem n_l25 {Q : mmT → Nat → Prop} (h : ∀ ν, Fr o μ0 ν → M39 ν → HB ν o → HL ν o 8 → Q ν (o + 346)) : ∀ (d i : Nat) (μ : mmT), i + d = 8 → Fr o μ0 μ → M39 μ → HB μ o → HL μ o i → w_X4_init_l25 G o Q (d + 1) (nI i) i μ (o + (2 + 43 * i))
  | 0, i, μ, hi, g, hm, hb, hL => by
    obtain rfl : i = 8 := by omega
    exact ⟨by decide, fun _ => h μ g hm hb hL, fun e => absurd (nI_le (Nat.le_refl _) (by decide)) e⟩
  | d + 1, i, μ, hi, g, hm, hb, hL => by
    refine ⟨by omega, fun e => absurd ((nI_leI (by decide) (by omega)).mp e) (by omega), fun _ => ⟨hb.1, nO_Ke, n_X8 (o := o + (2 + 43 * i)) nO_Ke (M39_nO hm (by decide)) (fun ν g1 m1 s1 => ?_)⟩⟩
    have g2 : Fr (o + (2 + 43 * i)) μ ν := (Fr_nO (Nat.le_refl _)).tr g1
    have hb2 := HB_fr hb g2 (by omega)
    have hL2 := HL_fr hL g2 (Nat.le_refl _)
    refine ⟨o + 1, hb.2.1, hb2.2.2.1, s1.1.1.1, ?_, ?_⟩
    · rw [hb2.2.2.2.1]; exact vp_in_nI (by omega) (by decide)
    rw [cl (by omega), nI_add]
    refine n_l25 h d (i + 1) _ (by omega) ((g.tr (g2.dn (by omega))).tr (Fr_sB (by omega))) m1 hb2 (fun k hk => ?_)
    by_cases e : k = i
    · subst e
      exact ⟨sB_e, SI_sB s1 (by omega)⟩
    · rw [sB_o (by omega)]
      exact ⟨(hL2 k (by omega)).1, SI_sB (hL2 k (by omega)).2 (by omega)⟩
theorem n_X4 {Q : mmT → Nat → Prop} (hk : mK μ o = 4) (hm : M39 μ) (h : ∀ ν, Fr o μ ν → M39 ν → HB ν o → HL ν o 8 → Q ν (o + 346)) : w_X4_init G μ (o + 1) o Q := by
  have e1 : mK (nA μ (o + 1) 9 8) o = 4 := (nA_K (by omega)).trans hk
  have m1 : M39 (nA μ (o + 1) 9 8) := M39_nA hm (fun q => absurd q (by decide))
  have g1 : Fr o μ (nA μ (o + 1) 9 8) := Fr_nA (by omega)
  have k1 : mK (nA μ (o + 1) 9 8) (o + 1) = 41 := nA_Ke
  have n1 : mN (nA μ (o + 1) 9 8) (o + 1) = 8 := nA_Ne
  unfold w_X4_init
  refine ⟨e1, ?_⟩
  generalize nA μ (o + 1) 9 8 = μ1 at *
  have q : HB (sI (sI (sR μ1 96 o (some (o + 1))) 97 o (nI 0)) 98 o (nI 0)) o := ⟨e1, sR_e, k1, n1, (sI_o (by omega)).trans sI_e, sI_e⟩
  exact ⟨e1, e1, 9, n_l25 (μ0 := μ) h 8 0 _ rfl (((g1.tr (Fr_sR (by omega))).tr (Fr_sI (by omega))).tr (Fr_sI (by omega))) m1 q (fun k hk => absurd hk (Nat.not_lt_zero _))⟩
def TB (ν : mmT) (o : Nat) : Prop := mK ν o = 7 ∧ mR ν 192 o = some (o + 1) ∧ mR ν 193 o = some (o + 2) ∧ mK ν (o + 1) = 33 ∧ mN ν (o + 1) = 60 ∧ mK ν (o + 2) = 37 ∧ mN ν (o + 2) = 60 ∧ mI ν 194 o = nI 0
def TL (ν : mmT) (o i : Nat) : Prop := ∀ k, k < i → mB ν (o + 2) k = some (o + (3 + k)) ∧ mK ν (o + (3 + k)) = 2
theorem TB_fr (h : TB μ o) (g : Fr lo μ ν) (hl : o + 3 ≤ lo) : TB ν o := by
  unfold TB at h ⊢
  rw [g.kk (by omega), g.kk (by omega), g.kk (by omega), g.nn (by omega), g.nn (by omega), g.rr (by omega), g.rr (by omega), g.ii (by omega)]
  exact h
theorem TL_fr (h : TL μ o i) (g : Fr lo μ ν) (hl : o + (3 + i) ≤ lo) : TL ν o i := fun k hk => by
  rw [g.bb (by omega), g.kk (by omega)]
  exact h k hk
theorem n_l58 {Q : mmT → Nat → Prop} (h : ∀ ν, Fr o μ0 ν → M39 ν → TB ν o → TL ν o 60 → Q ν (o + 63)) : ∀ (d i : Nat) (μ : mmT), i + d = 60 → Fr o μ0 μ → M39 μ → TB μ o → TL μ o i → w_X7_init_l58 G o Q (d + 1) (nI i) i μ (o + (3 + i))
  | 0, i, μ, hi, g, hm, hb, hL => by
    obtain rfl : i = 60 := by omega
    exact ⟨by decide, fun _ => h μ g hm hb hL, fun e => absurd (nI_le (Nat.le_refl _) (by decide)) e⟩
  | d + 1, i, μ, hi, g, hm, hb, hL => by
    refine ⟨by omega, fun e => absurd ((nI_leI (by decide) (by omega)).mp e) (by omega), fun _ => ⟨hb.1, nO_Ke, n_X1 (o := o + (3 + i)) nO_Ke (M39_nO hm (by decide)) (fun ν g1 m1 s1 => ?_)⟩⟩
    have g2 : Fr (o + (3 + i)) μ ν := (Fr_nO (Nat.le_refl _)).tr g1
    have hb2 := TB_fr hb g2 (by omega)
    have hL2 := TL_fr hL g2 (Nat.le_refl _)
    refine ⟨o + 2, hb.2.2.1, hb2.2.2.2.2.2.1, s1, ?_, ?_⟩
    · rw [hb2.2.2.2.2.2.2.1]; exact vp_in_nI (by omega) (by decide)
    rw [cl (by omega), nI_add]
    refine n_l58 h d (i + 1) _ (by omega) ((g.tr (g2.dn (by omega))).tr (Fr_sB (by omega))) m1 hb2 (fun k hk => ?_)
    by_cases e : k = i
    · subst e
      exact ⟨sB_e, s1⟩
    · rw [sB_o (by omega)]
      exact hL2 k (by omega)
theorem n_X7 {Q : mmT → Nat → Prop} (hk : mK μ o = 7) (hm : M39 μ) (h : ∀ ν, Fr o μ ν → M39 ν → TB ν o → TL ν o 60 → Q ν (o + 63)) : w_X7_init G μ (o + 1) o Q := by
  have e1 : mK (nA μ (o + 1) 1 60) o = 7 := (nA_K (by omega)).trans hk
  have m1 : M39 (nA μ (o + 1) 1 60) := M39_nA hm (fun q => absurd q (by decide))
  have g1 : Fr o μ (nA μ (o + 1) 1 60) := Fr_nA (by omega)
  have k1 : mK (nA μ (o + 1) 1 60) (o + 1) = 33 := nA_Ke
  have n1 : mN (nA μ (o + 1) 1 60) (o + 1) = 60 := nA_Ne
  unfold w_X7_init
  refine ⟨e1, ?_⟩
  generalize nA μ (o + 1) 1 60 = μ1 at *
  have e2 : mK (nA (sR μ1 192 o (some (o + 1))) (o + 1 + 1) 5 60) o = 7 := (nA_K (by omega)).trans e1
  have m2 : M39 (nA (sR μ1 192 o (some (o + 1))) (o + 1 + 1) 5 60) := M39_nA (M39_sR m1) (fun q => absurd q (by decide))
  have g2 : Fr o μ (nA (sR μ1 192 o (some (o + 1))) (o + 1 + 1) 5 60) := (g1.tr (Fr_sR (by omega))).tr (Fr_nA (by omega))
  have k2 : mK (nA (sR μ1 192 o (some (o + 1))) (o + 1 + 1) 5 60) (o + 1) = 33 := (nA_K (by omega)).trans k1
  have n2 : mN (nA (sR μ1 192 o (some (o + 1))) (o + 1 + 1) 5 60) (o + 1) = 60 := (nA_N (by omega)).trans n1
  have k3 : mK (nA (sR μ1 192 o (some (o + 1))) (o + 1 + 1) 5 60) (o + 2) = 37 := nA_Ke
  have n3 : mN (nA (sR μ1 192 o (some (o + 1))) (o + 1 + 1) 5 60) (o + 2) = 60 := nA_Ne
  have r2 : mR (nA (sR μ1 192 o (some (o + 1))) (o + 1 + 1) 5 60) 192 o = some (o + 1) := by rw [nA_R]; exact sR_e
  refine ⟨e2, ?_⟩
  generalize nA (sR μ1 192 o (some (o + 1))) (o + 1 + 1) 5 60 = μ2 at *
  have e3 : mK (sR μ2 193 o (some (o + 1 + 1))) o = 7 := e2
  have m3 : M39 (sR μ2 193 o (some (o + 1 + 1))) := M39_sR m2
  have g3 : Fr o μ (sR μ2 193 o (some (o + 1 + 1))) := g2.tr (Fr_sR (by omega))
  have q3 : mK (sR μ2 193 o (some (o + 1 + 1))) (o + 1) = 33 ∧ mN (sR μ2 193 o (some (o + 1 + 1))) (o + 1) = 60 ∧ mK (sR μ2 193 o (some (o + 1 + 1))) (o + 2) = 37 ∧ mN (sR μ2 193 o (some (o + 1 + 1))) (o + 2) = 60 := ⟨k2, n2, k3, n3⟩
  have r3 : mR (sR μ2 193 o (some (o + 1 + 1))) 192 o = some (o + 1) := (sR_o (by omega)).trans r2
  have r4 : mR (sR μ2 193 o (some (o + 1 + 1))) 193 o = some (o + 2) := sR_e
  refine ⟨e3, ?_⟩
  generalize sR μ2 193 o (some (o + 1 + 1)) = μ3 at *
  have e4 : mK (sI μ3 194 o (nI 0)) o = 7 := e3
  have g4 : Fr o μ (sI μ3 194 o (nI 0)) := g3.tr (Fr_sI (by omega))
  have q4 : mK (sI μ3 194 o (nI 0)) (o + 1) = 33 ∧ mN (sI μ3 194 o (nI 0)) (o + 1) = 60 ∧ mK (sI μ3 194 o (nI 0)) (o + 2) = 37 ∧ mN (sI μ3 194 o (nI 0)) (o + 2) = 60 := q3
  have r5 : mR (sI μ3 194 o (nI 0)) 192 o = some (o + 1) ∧ mR (sI μ3 194 o (nI 0)) 193 o = some (o + 2) := ⟨r3, r4⟩
  have m4 : M39 (sI μ3 194 o (nI 0)) := m3
  have i4 : mI (sI μ3 194 o (nI 0)) 194 o = nI 0 := sI_e
  refine ⟨e4, ?_⟩
  generalize sI μ3 194 o (nI 0) = μ4 at *
  obtain ⟨a1, a2, a3, a4⟩ := q4
  refine ⟨e4, e4, e4, e4, e4, 61, n_l58 (μ0 := μ) h 60 0 _ rfl ((((((g4.tr (Fr_sI (by omega))).tr (Fr_sI (by omega))).tr (Fr_sI (by omega))).tr (Fr_sI (by omega))).tr (Fr_sI (by omega))).tr (Fr_sI (by omega))) m4 ⟨e4, r5.1, r5.2, a1, a2, a3, a4, ?_⟩ (fun k hk => absurd hk (Nat.not_lt_zero _))⟩
  exact (sI_o (by omega)).trans ((sI_o (by omega)).trans ((sI_o (by omega)).trans ((sI_o (by omega)).trans ((sI_o (by omega)).trans ((sI_o (by omega)).trans i4)))))
def OB (ν : mmT) (o : Nat) : Prop := mK ν o = 1 ∧ mR ν 0 o = some (o + 1) ∧ mK ν (o + 1) = 32 ∧ mN ν (o + 1) = 16 ∧ mI ν 1 o = nI 0 ∧ mI ν 3 o = 0
theorem OB_fr (h : OB μ o) (g : Fr lo μ ν) (hl : o + 2 ≤ lo) : OB ν o := by
  unfold OB at h ⊢
  rw [g.kk (by omega), g.kk (by omega), g.nn (by omega), g.rr (by omega), g.ii (by omega), g.ii (by omega)]
  exact h
theorem n_J4 {Q : mmT → Nat → Prop} (hk : mK μ o = 1) (h3 : mI μ 3 o = 0) (hm : M39 μ) (h : ∀ ν, Fr o μ ν → M39 ν → OB ν o → Q ν (o + 2)) : w_J4_init_da8c8 G μ (o + 1) o Q := by
  have e1 : mK (nA μ (o + 1) 0 16) o = 1 := (nA_K (by omega)).trans hk
  have m1 : M39 (nA μ (o + 1) 0 16) := M39_nA hm (fun q => absurd q (by decide))
  have g1 : Fr o μ (nA μ (o + 1) 0 16) := Fr_nA (by omega)
  have k1 : mK (nA μ (o + 1) 0 16) (o + 1) = 32 := nA_Ke
  have n1 : mN (nA μ (o + 1) 0 16) (o + 1) = 16 := nA_Ne
  have i1 : mI (nA μ (o + 1) 0 16) 3 o = 0 := by rw [nA_I]; exact h3
  unfold w_J4_init_da8c8 w_J5_init_d00df
  refine ⟨hk, by decide, e1, ?_⟩
  generalize nA μ (o + 1) 0 16 = μ1 at *
  exact ⟨e1, h _ ((g1.tr (Fr_sR (by omega))).tr (Fr_sI (by omega))) m1 ⟨e1, sR_e, k1, n1, sI_e, (sI_o (by omega)).trans i1⟩⟩
theorem sI_K : mK (sI μ F c x) = mK μ := rfl
end START2

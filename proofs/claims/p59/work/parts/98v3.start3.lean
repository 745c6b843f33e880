/-! THE START: the two objects -/
section START3
variable {G : mgT} {μ ν ρ μ0 : mmT} {z a b c i j k F n o lo lo2 ci : Nat} {x : Int32} {y : Option Nat}
def ZO (ν : mmT) (o : Nat) : Prop := (mK ν o = 10 ∧ mR ν 288 o = some (o + 1) ∧ mR ν 289 o = some (o + 44) ∧ mR ν 290 o = some (o + 87) ∧ mR ν 291 o = some (o + 130) ∧ mR ν 292 o = some (o + 173) ∧ mR ν 293 o = some (o + 519) ∧ mR ν 294 o = some (o + 582)) ∧ mI ν 295 o = nI 0 ∧ mI ν 296 o = -1 ∧ mI ν 297 o = -1
def ZA (ν : mmT) (o : Nat) : Prop := SI ν (o + 1) ∧ SI ν (o + 44) ∧ SI ν (o + 87) ∧ SI ν (o + 130) ∧ (HB ν (o + 173) ∧ HL ν (o + 173) 8) ∧ (TB ν (o + 519) ∧ TL ν (o + 519) 60) ∧ OB ν (o + 582)
theorem ZA_fr (h : ZA μ o) (g : Fr lo μ ν) (hl : o + 584 ≤ lo) : ZA ν o := by
  obtain ⟨h1, h2, h3, h4, ⟨h5, h6⟩, ⟨h7, h8⟩, h9⟩ := h
  exact ⟨SI_fr h1 g (by omega), SI_fr h2 g (by omega), SI_fr h3 g (by omega), SI_fr h4 g (by omega), ⟨HB_fr h5 g (by omega), HL_fr h6 g (by omega)⟩, ⟨TB_fr h7 g (by omega), TL_fr h8 g (by omega)⟩, OB_fr h9 g (by omega)⟩
theorem ZO_fr (h : ZO μ o) (g : Fr lo μ ν) (hl : o < lo) : ZO ν o := by
  unfold ZO at h ⊢
  rw [g.kk hl, g.rr hl, g.rr hl, g.rr hl, g.rr hl, g.rr hl, g.rr hl, g.rr hl, g.ii hl, g.ii hl, g.ii hl]
  exact h
/-- a field of the object is set: what lies behind it stays -/
theorem SI_u (h : SI μ a) (hk : mK ν = mK μ) (hn : mN ν = mN μ) (hi : ∀ F b, a ≤ b → mI ν F b = mI μ F b) (hr : ∀ F b, a ≤ b → mR ν F b = mR μ F b) (hb : mB ν = mB μ) : SI ν a := by
  obtain ⟨h1, h2, h3, h4⟩ := h
  unfold Bs at h1
  refine ⟨?_, fun k q => ?_, fun k q => ?_, fun k q => ?_⟩
  · unfold Bs
    rw [hk, hn, hr _ _ (Nat.le_refl _), hr _ _ (Nat.le_refl _), hr _ _ (Nat.le_refl _), hr _ _ (Nat.le_refl _), hi _ a (Nat.le_refl _), hi _ a (Nat.le_refl _), hi _ a (Nat.le_refl _), hi _ a (Nat.le_refl _), hi _ a (Nat.le_refl _), hi _ (a + 4) (by omega), hi _ (a + 4) (by omega), hi _ (a + 4) (by omega), hi _ (a + 4) (by omega), hi _ (a + 4) (by omega), hi _ (a + 4) (by omega), hi _ (a + 4) (by omega)]
    exact h1
  · rw [hb, hk, hn, hr _ _ (by omega), hr _ _ (by omega)]; exact h2 k q
  · rw [hb, hk, hi _ _ (by omega)]; exact h3 k q
  · rw [hb, hk, hi _ _ (by omega)]; exact h4 k q
theorem SI_sR (h : SI μ a) (hc : c < a) : SI (sR μ F c y) a := SI_u h rfl rfl (fun _ _ _ => by rw [sR_I]) (fun _ _ _ => sR_o (by omega)) rfl
theorem SI_sI (h : SI μ a) (hc : c < a) : SI (sI μ F c x) a := SI_u h rfl rfl (fun _ _ _ => sI_o (by omega)) (fun _ _ _ => by rw [sI_R]) rfl
theorem HB_sR (h : HB μ a) (hc : c < a) : HB (sR μ F c y) a := ⟨h.1, (sR_o (by omega)).trans h.2.1, h.2.2.1, h.2.2.2.1, (congrFun (congrFun sR_I _) _).trans h.2.2.2.2.1, (congrFun (congrFun sR_I _) _).trans h.2.2.2.2.2⟩
theorem HB_sI (h : HB μ a) (hc : c < a) : HB (sI μ F c x) a := ⟨h.1, h.2.1, h.2.2.1, h.2.2.2.1, (sI_o (by omega)).trans h.2.2.2.2.1, (sI_o (by omega)).trans h.2.2.2.2.2⟩
theorem HL_sR (h : HL μ a i) (hc : c < a) : HL (sR μ F c y) a i := fun k hk => ⟨(h k hk).1, SI_sR (h k hk).2 (by omega)⟩
theorem HL_sI (h : HL μ a i) (hc : c < a) : HL (sI μ F c x) a i := fun k hk => ⟨(h k hk).1, SI_sI (h k hk).2 (by omega)⟩
theorem TB_sR (h : TB μ a) (hc : c < a) : TB (sR μ F c y) a := ⟨h.1, (sR_o (by omega)).trans h.2.1, (sR_o (by omega)).trans h.2.2.1, h.2.2.2.1, h.2.2.2.2.1, h.2.2.2.2.2.1, h.2.2.2.2.2.2.1, (congrFun (congrFun sR_I _) _).trans h.2.2.2.2.2.2.2⟩
theorem TB_sI (h : TB μ a) (hc : c < a) : TB (sI μ F c x) a := ⟨h.1, h.2.1, h.2.2.1, h.2.2.2.1, h.2.2.2.2.1, h.2.2.2.2.2.1, h.2.2.2.2.2.2.1, (sI_o (by omega)).trans h.2.2.2.2.2.2.2⟩
theorem TL_sR (h : TL μ a i) : TL (sR μ F c y) a i := h
theorem TL_sI (h : TL μ a i) : TL (sI μ F c x) a i := h
theorem OB_sR (h : OB μ a) (hc : c < a) : OB (sR μ F c y) a := ⟨h.1, (sR_o (by omega)).trans h.2.1, h.2.2.1, h.2.2.2.1, (congrFun (congrFun sR_I _) _).trans h.2.2.2.2.1, (congrFun (congrFun sR_I _) _).trans h.2.2.2.2.2⟩
theorem OB_sI (h : OB μ a) (hc : c < a) : OB (sI μ F c x) a := ⟨h.1, h.2.1, h.2.2.1, h.2.2.2.1, (sI_o (by omega)).trans h.2.2.2.2.1, (sI_o (by omega)).trans h.2.2.2.2.2⟩
theorem ZA_sI (h : ZA μ o) : ZA (sI μ F o x) o := by
  obtain ⟨h1, h2, h3, h4, ⟨h5, h6⟩, ⟨h7, h8⟩, h9⟩ := h
  exact ⟨SI_sI h1 (by omega), SI_sI h2 (by omega), SI_sI h3 (by omega), SI_sI h4 (by omega), ⟨HB_sI h5 (by omega), HL_sI h6 (by omega)⟩, ⟨TB_sI h7 (by omega), TL_sI h8⟩, OB_sI h9 (by omega)⟩
theorem n_X10 {Q : mmT → Nat → Prop} (hk : mK μ o = 10) (hm : M39 μ) (h : ∀ ν, Fr o μ ν → M39 ν → ZO ν o → ZA ν o → Q ν (o + 584)) : w_X10_init G μ (o + 1) o Q := by
  unfold w_X10_init
  refine ⟨nO_Ke, n_X8 (o := o + 1) nO_Ke (M39_nO hm (by decide)) (fun μ2 f1 m1 s1 => ?_)⟩
  have g1 : Fr (o + 1) μ μ2 := (Fr_nO (Nat.le_refl _)).tr f1
  have k1 : mK μ2 o = 10 := (g1.kk (by omega)).trans hk
  refine ⟨k1, nO_Ke, n_X8 (o := o + 1 + 43) nO_Ke (M39_nO (M39_sR m1) (by decide)) (fun μ6 f2 m2 s2 => ?_)⟩
  have g2 : Fr (o + 44) (sR μ2 288 o (some (o + 1))) μ6 := (Fr_nO (Nat.le_refl _)).tr f2
  have k2 : mK μ6 o = 10 := (g2.kk (by omega)).trans k1
  have t1 := SI_fr (SI_sR (F := 288) (c := o) (y := some (o + 1)) s1 (by omega)) g2 (by omega)
  have r1 : mR μ6 288 o = some (o + 1) := (g2.rr (by omega)).trans sR_e
  have G2 : Fr o μ μ6 := ((g1.dn (by omega)).tr (Fr_sR (by omega))).tr (g2.dn (by omega))
  refine ⟨k2, nO_Ke, n_X8 (o := o + 1 + 43 + 43) nO_Ke (M39_nO (M39_sR m2) (by decide)) (fun μ10 f3 m3 s3 => ?_)⟩
  have g3 : Fr (o + 87) (sR μ6 289 o (some (o + 1 + 43))) μ10 := (Fr_nO (Nat.le_refl _)).tr f3
  have k3 : mK μ10 o = 10 := (g3.kk (by omega)).trans k2
  have u1 := SI_fr (SI_sR (F := 289) (c := o) (y := some (o + 1 + 43)) t1 (by omega)) g3 (by omega)
  have u2 := SI_fr (SI_sR (F := 289) (c := o) (y := some (o + 1 + 43)) s2 (by omega)) g3 (by omega)
  have r2 : mR μ10 289 o = some (o + 44) := (g3.rr (by omega)).trans sR_e
  have r21 : mR μ10 288 o = some (o + 1) := (g3.rr (by omega)).trans ((sR_o (by omega)).trans r1)
  have G3 : Fr o μ μ10 := (G2.tr (Fr_sR (by omega))).tr (g3.dn (by omega))
  refine ⟨k3, nO_Ke, n_X8 (o := o + 1 + 43 + 43 + 43) nO_Ke (M39_nO (M39_sR m3) (by decide)) (fun μ14 f4 m4 s4 => ?_)⟩
  have g4 : Fr (o + 130) (sR μ10 290 o (some (o + 1 + 43 + 43))) μ14 := (Fr_nO (Nat.le_refl _)).tr f4
  have k4 : mK μ14 o = 10 := (g4.kk (by omega)).trans k3
  have v1 := SI_fr (SI_sR (F := 290) (c := o) (y := some (o + 1 + 43 + 43)) u1 (by omega)) g4 (by omega)
  have v2 := SI_fr (SI_sR (F := 290) (c := o) (y := some (o + 1 + 43 + 43)) u2 (by omega)) g4 (by omega)
  have v3 := SI_fr (SI_sR (F := 290) (c := o) (y := some (o + 1 + 43 + 43)) s3 (by omega)) g4 (by omega)
  have r3 : mR μ14 290 o = some (o + 87) := (g4.rr (by omega)).trans sR_e
  have r31 : mR μ14 288 o = some (o + 1) := (g4.rr (by omega)).trans ((sR_o (by omega)).trans r21)
  have r32 : mR μ14 289 o = some (o + 44) := (g4.rr (by omega)).trans ((sR_o (by omega)).trans r2)
  have G4 : Fr o μ μ14 := (G3.tr (Fr_sR (by omega))).tr (g4.dn (by omega))
  refine ⟨k4, nO_Ke, n_X4 (o := o + 1 + 43 + 43 + 43 + 43) nO_Ke (M39_nO (M39_sR m4) (by decide)) (fun μ18 f5 m5 hb5 hl5 => ?_)⟩
  have g5 : Fr (o + 173) (sR μ14 291 o (some (o + 1 + 43 + 43 + 43))) μ18 := (Fr_nO (Nat.le_refl _)).tr f5
  have k5 : mK μ18 o = 10 := (g5.kk (by omega)).trans k4
  have w1 := SI_fr (SI_sR (F := 291) (c := o) (y := some (o + 1 + 43 + 43 + 43)) v1 (by omega)) g5 (by omega)
  have w2 := SI_fr (SI_sR (F := 291) (c := o) (y := some (o + 1 + 43 + 43 + 43)) v2 (by omega)) g5 (by omega)
  have w3 := SI_fr (SI_sR (F := 291) (c := o) (y := some (o + 1 + 43 + 43 + 43)) v3 (by omega)) g5 (by omega)
  have w4 := SI_fr (SI_sR (F := 291) (c := o) (y := some (o + 1 + 43 + 43 + 43)) s4 (by omega)) g5 (by omega)
  have r4 : mR μ18 291 o = some (o + 130) := (g5.rr (by omega)).trans sR_e
  have r41 : mR μ18 288 o = some (o + 1) := (g5.rr (by omega)).trans ((sR_o (by omega)).trans r31)
  have r42 : mR μ18 289 o = some (o + 44) := (g5.rr (by omega)).trans ((sR_o (by omega)).trans r32)
  have r43 : mR μ18 290 o = some (o + 87) := (g5.rr (by omega)).trans ((sR_o (by omega)).trans r3)
  have G5 : Fr o μ μ18 := (G4.tr (Fr_sR (by omega))).tr (g5.dn (by omega))
  refine ⟨k5, nO_Ke, n_X7 (o := o + 1 + 43 + 43 + 43 + 43 + 346) nO_Ke (M39_nO (M39_sR m5) (by decide)) (fun μ22 f6 m6 tb6 tl6 => ?_)⟩
  have g6 : Fr (o + 519) (sR μ18 292 o (some (o + 1 + 43 + 43 + 43 + 43))) μ22 := (Fr_nO (Nat.le_refl _)).tr f6
  have k6 : mK μ22 o = 10 := (g6.kk (by omega)).trans k5
  have x1 := SI_fr (SI_sR (F := 292) (c := o) (y := some (o + 1 + 43 + 43 + 43 + 43)) w1 (by omega)) g6 (by omega)
  have x2 := SI_fr (SI_sR (F := 292) (c := o) (y := some (o + 1 + 43 + 43 + 43 + 43)) w2 (by omega)) g6 (by omega)
  have x3 := SI_fr (SI_sR (F := 292) (c := o) (y := some (o + 1 + 43 + 43 + 43 + 43)) w3 (by omega)) g6 (by omega)
  have x4 := SI_fr (SI_sR (F := 292) (c := o) (y := some (o + 1 + 43 + 43 + 43 + 43)) w4 (by omega)) g6 (by omega)
  have x5 := HB_fr (HB_sR (F := 292) (c := o) (y := some (o + 1 + 43 + 43 + 43 + 43)) hb5 (by omega)) g6 (by omega)
  have x6 := HL_fr (HL_sR (F := 292) (c := o) (y := some (o + 1 + 43 + 43 + 43 + 43)) hl5 (by omega)) g6 (by omega)
  have r5 : mR μ22 292 o = some (o + 173) := (g6.rr (by omega)).trans sR_e
  have r51 : mR μ22 288 o = some (o + 1) := (g6.rr (by omega)).trans ((sR_o (by omega)).trans r41)
  have r52 : mR μ22 289 o = some (o + 44) := (g6.rr (by omega)).trans ((sR_o (by omega)).trans r42)
  have r53 : mR μ22 290 o = some (o + 87) := (g6.rr (by omega)).trans ((sR_o (by omega)).trans r43)
  have r54 : mR μ22 291 o = some (o + 130) := (g6.rr (by omega)).trans ((sR_o (by omega)).trans r4)
  have G6 : Fr o μ μ22 := (G5.tr (Fr_sR (by omega))).tr (g6.dn (by omega))
  refine ⟨k6, nO_Ke, n_J4 (o := o + 1 + 43 + 43 + 43 + 43 + 346 + 63) nO_Ke nO_Ie (M39_nO (M39_sR m6) (by decide)) (fun μ26 f7 m7 ob7 => ?_)⟩
  have g7 : Fr (o + 582) (sR μ22 293 o (some (o + 1 + 43 + 43 + 43 + 43 + 346))) μ26 := (Fr_nO (Nat.le_refl _)).tr f7
  have k7 : mK μ26 o = 10 := (g7.kk (by omega)).trans k6
  have y1 := SI_fr (SI_sR (F := 293) (c := o) (y := some (o + 1 + 43 + 43 + 43 + 43 + 346)) x1 (by omega)) g7 (by omega)
  have y2 := SI_fr (SI_sR (F := 293) (c := o) (y := some (o + 1 + 43 + 43 + 43 + 43 + 346)) x2 (by omega)) g7 (by omega)
  have y3 := SI_fr (SI_sR (F := 293) (c := o) (y := some (o + 1 + 43 + 43 + 43 + 43 + 346)) x3 (by omega)) g7 (by omega)
  have y4 := SI_fr (SI_sR (F := 293) (c := o) (y := some (o + 1 + 43 + 43 + 43 + 43 + 346)) x4 (by omega)) g7 (by omega)
  have y5 := HB_fr (HB_sR (F := 293) (c := o) (y := some (o + 1 + 43 + 43 + 43 + 43 + 346)) x5 (by omega)) g7 (by omega)
  have y6 := HL_fr (HL_sR (F := 293) (c := o) (y := some (o + 1 + 43 + 43 + 43 + 43 + 346)) x6 (by omega)) g7 (by omega)
  have y7 := TB_fr (TB_sR (F := 293) (c := o) (y := some (o + 1 + 43 + 43 + 43 + 43 + 346)) tb6 (by omega)) g7 (by omega)
  have y8 := TL_fr (TL_sR (F := 293) (c := o) (y := some (o + 1 + 43 + 43 + 43 + 43 + 346)) tl6) g7 (by omega)
  have r6 : mR μ26 293 o = some (o + 519) := (g7.rr (by omega)).trans sR_e
  have r61 : mR μ26 288 o = some (o + 1) := (g7.rr (by omega)).trans ((sR_o (by omega)).trans r51)
  have r62 : mR μ26 289 o = some (o + 44) := (g7.rr (by omega)).trans ((sR_o (by omega)).trans r52)
  have r63 : mR μ26 290 o = some (o + 87) := (g7.rr (by omega)).trans ((sR_o (by omega)).trans r53)
  have r64 : mR μ26 291 o = some (o + 130) := (g7.rr (by omega)).trans ((sR_o (by omega)).trans r54)
  have r65 : mR μ26 292 o = some (o + 173) := (g7.rr (by omega)).trans ((sR_o (by omega)).trans r5)
  have G7 : Fr o μ μ26 := (G6.tr (Fr_sR (by omega))).tr (g7.dn (by omega))
  have za : ZA (sR μ26 294 o (some (o + 1 + 43 + 43 + 43 + 43 + 346 + 63))) o := ⟨SI_sR y1 (by omega), SI_sR y2 (by omega), SI_sR y3 (by omega), SI_sR y4 (by omega), ⟨HB_sR y5 (by omega), HL_sR y6 (by omega)⟩, ⟨TB_sR y7 (by omega), TL_sR y8⟩, OB_sR ob7 (by omega)⟩
  have zr : mR (sR μ26 294 o (some (o + 1 + 43 + 43 + 43 + 43 + 346 + 63))) 288 o = some (o + 1) ∧ mR (sR μ26 294 o (some (o + 1 + 43 + 43 + 43 + 43 + 346 + 63))) 289 o = some (o + 44) ∧ mR (sR μ26 294 o (some (o + 1 + 43 + 43 + 43 + 43 + 346 + 63))) 290 o = some (o + 87) ∧ mR (sR μ26 294 o (some (o + 1 + 43 + 43 + 43 + 43 + 346 + 63))) 291 o = some (o + 130) ∧ mR (sR μ26 294 o (some (o + 1 + 43 + 43 + 43 + 43 + 346 + 63))) 292 o = some (o + 173) ∧ mR (sR μ26 294 o (some (o + 1 + 43 + 43 + 43 + 43 + 346 + 63))) 293 o = some (o + 519) ∧ mR (sR μ26 294 o (some (o + 1 + 43 + 43 + 43 + 43 + 346 + 63))) 294 o = some (o + 582) :=
    ⟨(sR_o (by omega)).trans r61, (sR_o (by omega)).trans r62, (sR_o (by omega)).trans r63, (sR_o (by omega)).trans r64, (sR_o (by omega)).trans r65, (sR_o (by omega)).trans r6, sR_e⟩
  have kz : mK (sR μ26 294 o (some (o + 1 + 43 + 43 + 43 + 43 + 346 + 63))) o = 10 := k7
  have mz : M39 (sR μ26 294 o (some (o + 1 + 43 + 43 + 43 + 43 + 346 + 63))) := M39_sR m7
  have Gz : Fr o μ (sR μ26 294 o (some (o + 1 + 43 + 43 + 43 + 43 + 346 + 63))) := G7.tr (Fr_sR (by omega))
  refine ⟨k7, kz, ?_⟩
  generalize sR μ26 294 o (some (o + 1 + 43 + 43 + 43 + 43 + 346 + 63)) = π at *
  exact ⟨kz, kz, h _ (((Gz.tr (Fr_sI (by omega))).tr (Fr_sI (by omega))).tr (Fr_sI (by omega))) mz ⟨⟨kz, zr⟩, (sI_o (by omega)).trans ((sI_o (by omega)).trans sI_e), (sI_o (by omega)).trans sI_e, sI_e⟩ (ZA_sI (ZA_sI (ZA_sI za)))⟩
end START3

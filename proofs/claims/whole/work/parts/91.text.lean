/-! THE LAW: A CHARACTER OF THE OUTPUT, A CHARACTER TYPED -/
section TEXT
variable {G : mgT} {μ ν ρ σ : mmT} {z a b c c2 m i F nx ct t o L q : Nat} {S S2 : cT} {v w v0 : Nat → Nat} {V : Nat → Nat → Nat} {R : rT} {B B2 : Nat} {x : Int32} {xs : Nat → Int32} {K : Option Nat → Option Nat → Option Nat → Option Nat → Int32 → Nat → mmT → Prop}
theorem sA_I {j : Nat} : mI (sA μ b j x) F c = mI μ F c := rfl
theorem and255 {n : Nat} (h : n < 256) : nI n &&& nI 255 = nI n := by
  rw [pk_andN (by omega) 8 (by decide), Nat.mod_eq_of_lt (by omega)]
theorem t_outputAt {Q : Int32 → Prop} {X : String → Prop} (hT : ST μ z) (hO : ICo μ z R) (h16 : rL R ≤ 16) (h128 : ∀ i, i < rL R → rO R i < 128)
    (h1 : ∀ k, k < rL R → x = nI k → Q (nI (rO R k))) (h0 : (∀ k, k < rL R → x ≠ nI k) → X "java/lang/IndexOutOfBoundsException") : w_X10_outputAt G μ z x Q X := by
  obtain ⟨e1, e3, eo⟩ := hO
  unfold w_X10_outputAt w_X10_outputAt_b15 w_J4_length_8abf5 w_J5_length_8abf5 w_J4_charAt_5068e w_J5_charAt_5068e w_J0_checkIndex_df160 w_J3_checkIndex_8e157
  refine ⟨fun c => h0 (fun k hk e => nI_nneg (by omega) (e ▸ c)), fun c => ⟨hT.kz, _, hT.z7, hT.o.1, hT.o.1, hT.o.1, ?_⟩⟩
  rw [e3]
  refine ⟨fun c2 => ?_, fun c2 => h0 (fun k hk e => c2 (by rw [e]; exact (nI_ltI (by omega) (by omega)).mpr hk))⟩
  have hk : ∃ k, k < rL R ∧ x = nI k := by
    rcases pk_ix x (n := rL R) (by omega) with w1 | w1 | w1
    · exact absurd w1 c
    · exact absurd c2 (Int32.not_lt.mpr w1)
    · exact w1
  obtain ⟨k, hk, rfl⟩ := hk
  have hb := h128 k hk
  refine ⟨hT.o.1, hT.o.1, _, hT.o.2.1, hT.o.2.2.1, c, ?_, e1, ?_, ?_⟩
  · rw [hT.o.2.2.2, e1, show nI 16 >>> ((0 : Int32) &&& 31) = nI 16 by decide, if_neg (nI_nlt (by omega) (by decide))]
    exact c2
  · rw [hT.o.2.2.2]
    exact vp_in_nI (by omega) (by decide)
  · rw [cl (by omega), eo k hk, and255 (by omega), chN (by omega)]
    exact ⟨isCh_n (by omega), isCh_n (by omega), isCh_n (by omega), h1 k hk rfl⟩
theorem s_outputAt {Q : Int32 → mmT → Prop} (hT : ST μ z) (hO : IMo μ z R) (h16 : rL R ≤ 16) (h128 : ∀ i, i < rL R → rO R i < 128)
    (h1 : ∀ k, k < rL R → x = nI k → Q (nI (rO R k)) (sI μ 320 (z + 584) (nI 0))) (h0 : (∀ k, k < rL R → x ≠ nI k) → Q (nI 0) (sI μ 320 (z + 584) (nI 1))) : w_X11_outputAt G μ (z + 584) x Q := by
  obtain ⟨e3, eo⟩ := hO
  have f : ∀ k : Int32, mI (sI μ 320 (z + 584) k) 320 (z + 584) = k := fun k => sI_e
  unfold w_X11_outputAt w_X11_outputAt_b20 w_X11_outputAt_b41
  rw [e3]
  refine ⟨hT.km, s_X11_in (fun c1 c2 => ⟨fun z => absurd z (by decide), fun _ => ?_⟩) (fun c => ⟨fun _ => ?_, fun z => absurd rfl z⟩)⟩
  · obtain ⟨k, hk, rfl⟩ := lt_of_in (by omega) c1 c2
    have hb := h128 k hk
    refine ⟨z + 584, rfl, hT.km, hT.km, fun _ => ⟨z + 592, hT.ou.1, hT.ou.2.1, vp_th hT.ou.2.2 (by omega) (by decide), ?_⟩, fun c => absurd (by rw [f]; decide) c⟩
    rw [cl (by omega), sI_A, eo k hk, chN (by omega)]
    exact ⟨isCh_n (by omega), h1 k hk rfl⟩
  · have no : ∀ k, k < rL R → x ≠ nI k := fun k hk e => c (by rw [e]; exact in_of_lt (by omega) hk)
    exact ⟨z + 584, rfl, hT.km, hT.km, fun c => absurd c (by rw [f]; decide), fun _ => ⟨isCh_n (by decide), h0 no⟩⟩
theorem l_48 (hk : Tn L K z i t B c) (hO : Ok μ z B c) : w_L_law_b2419 G o L xs K (some z) (some (z + 584)) (some (z + 593)) (some (z + 594)) (nI i) t μ := by
  obtain ⟨ht, v1, v2, hb, hc, kk⟩ := hk
  obtain ⟨hT, v, ct, V, R, ⟨hI, hR⟩, ⟨hM, hMr⟩, hV, hJ⟩ := hO
  have kk2 : Kk (fun ρ => t ≤ 512 ∧ (t ≤ 512 ∧ K (some z) (some (z + 584)) (some (z + 593)) (some (z + 594)) (nI i + nI 3) (t + 1) ρ)) z (B + 20000) (c + 12) := fun ρ h => ⟨ht, ht, kk ρ h⟩
  unfold w_L_law_b2419 w_L_law_b2472 w_L_law_b2766 w_L_outputAt
  refine ⟨ht, v1, z, rfl, hT.kz, t_outputAt hT hR.2.2.2 hJ.2.2.2.2.1 hJ.2.2.2.2.2 (fun k hk e => ⟨z + 593, rfl, hT.l.1, lvp hT, v1, z + 584, rfl, hT.km, ?_⟩) (fun no => ⟨rfl, v1, z + 584, rfl, hT.km, ?_⟩)⟩
  · have q1 : ST (sL μ (z + 593) (nI 0).toNatClampNeg (nI (rO R k)).toInt64) z := hT
    have q2 : ICv (sL μ (z + 593) (nI 0).toNatClampNeg (nI (rO R k)).toInt64) z v ct V := hI
    have q3 : ICr (sL μ (z + 593) (nI 0).toNatClampNeg (nI (rO R k)).toInt64) z R := hR
    have q4 : IMv (sL μ (z + 593) (nI 0).toNatClampNeg (nI (rO R k)).toInt64) z v ct V := hM
    have q5 : IMr (sL μ (z + 593) (nI 0).toNatClampNeg (nI (rO R k)).toInt64) z R := hMr
    have eL : mL (sL μ (z + 593) (nI 0).toNatClampNeg (nI (rO R k)).toInt64) (z + 593) 0 = (nI (rO R k)).toInt64 := sL_e0
    generalize sL μ (z + 593) (nI 0).toNatClampNeg (nI (rO R k)).toInt64 = σ at *
    have h16 := hJ.2.2.2.2.1
    have hO := ok_s q1 q2 q3 q4 q5 hV hJ (k := nI 0)
    refine s_outputAt q1 q5.2.2.2 hJ.2.2.2.2.1 hJ.2.2.2.2.2 (fun k2 h2 e2 => ?_) (fun no => absurd e (no k hk))
    obtain rfl := nI_inj (by omega) (by omega) (e.symm.trans e2)
    exact cmp_ok (K := (fun ρ => t ≤ 512 ∧ (t ≤ 512 ∧ K (some z) (some (z + 584)) (some (z + 593)) (some (z + 594)) (nI i + nI 3) (t + 1) ρ))) hO.1 sI_e (fun _ => eL) (kk2 _ hO)
  · have hO := ok_s hT hI hR hM hMr hV hJ (k := nI 1)
    refine s_outputAt hT hMr.2.2.2 hJ.2.2.2.2.1 hJ.2.2.2.2.2 (fun k2 h2 e2 => absurd e2 (no k2 h2)) (fun _ => ?_)
    exact cmp_ok (K := (fun ρ => t ≤ 512 ∧ (t ≤ 512 ∧ K (some z) (some (z + 584)) (some (z + 593)) (some (z + 594)) (nI i + nI 3) (t + 1) ρ))) hO.1 sI_e (fun e => absurd e (by decide)) (kk2 _ hO)
/-! typing -/
def rTy (R : rT) (q : Nat) : rT := (R.1, (rF R + 1, fun j => if j = rF R then q else rX R j), R.2.2)
theorem t_type {Q : Int32 → mmT → Prop} {X : String → mmT → Prop} (hq : q < 65536) (hn : vp_nar .char (nI q) = nI q) (hT : ST μ z) (hI : ICt μ z R) (h60 : rF R ≤ 60)
    (h1 : 32 ≤ q → q ≤ 126 → rF R < 60 → ∀ ν, Ag z μ ν (fun b => b = z + 519 ∨ b = z + 520) → ICt ν z (rTy R q) → Q (nI (rF R + 1)) ν)
    (h2 : 32 ≤ q → q ≤ 126 → rF R = 60 → X "java/lang/IllegalStateException" μ) (h0 : ¬ (32 ≤ q ∧ q ≤ 126) → X "java/lang/IllegalArgumentException" μ) : w_X10_type G μ z (nI q) Q X := by
  obtain ⟨e1, et⟩ := hI
  unfold w_X10_type w_X10_type_b12 w_X7_append w_X7_append_b29
  refine pk_lt q 32 (fun c => h0 (by omega)) (fun c => pk_le q 126 (fun c2 => ⟨hT.kz, _, hT.z6, hT.t.1, ?_⟩) (fun c2 => h0 (by omega)))
  rw [e1]
  refine pk_lt (rF R) 60 (fun c3 => ⟨hT.t.1, fun c4 => absurd c4 (nI_ge c3 (by decide)), fun _ => ⟨_, hT.t.2.1, hT.t.2.2.2.1, vp_th hT.t.2.2.2.2.1 c3 (by decide), ?_⟩⟩) (fun c3 => h2 c c2 (by omega))
  have g : Ag z μ (sI (sA μ (z + 520) (nI (rF R)).toNatClampNeg (vp_nar .char (nI q))) 194 (z + 519) (mI (sA μ (z + 520) (nI (rF R)).toNatClampNeg (vp_nar .char (nI q))) 194 (z + 519) + nI 1)) (fun b => b = z + 519 ∨ b = z + 520) := (Ag_sA.tr Ag_sI).up (fun b h => h.elim Or.inr Or.inl)
  have e2 : mI (sI (sA μ (z + 520) (nI (rF R)).toNatClampNeg (vp_nar .char (nI q))) 194 (z + 519) (mI (sA μ (z + 520) (nI (rF R)).toNatClampNeg (vp_nar .char (nI q))) 194 (z + 519) + nI 1)) 194 (z + 519) = nI (rF R + 1) := by
    rw [sI_e]
    show mI μ 194 (z + 519) + nI 1 = _
    rw [e1, nI_add]
  have e3 : ∀ j, mA (sI (sA μ (z + 520) (nI (rF R)).toNatClampNeg (vp_nar .char (nI q))) 194 (z + 519) (mI (sA μ (z + 520) (nI (rF R)).toNatClampNeg (vp_nar .char (nI q))) 194 (z + 519) + nI 1)) (z + 520) j = if j = rF R then nI q else mA μ (z + 520) j := fun j => by
    rw [sI_A, hn, cl (by omega)]
    by_cases y : j = rF R
    · rw [if_pos y, y]
      exact sA_e
    · rw [if_neg y]
      exact sA_o (fun h => y h.2)
  generalize sI (sA μ (z + 520) (nI (rF R)).toNatClampNeg (vp_nar .char (nI q))) 194 (z + 519) (mI (sA μ (z + 520) (nI (rF R)).toNatClampNeg (vp_nar .char (nI q))) 194 (z + 519) + nI 1) = ν at *
  rw [e2]
  refine ⟨(hT.ag g).t.1, h1 c c2 c3 ν g ⟨e2, fun j hj => ?_⟩⟩
  rw [e3 j]
  show _ = nI (if j = rF R then q else rX R j)
  have hj2 : j < rF R + 1 := hj
  by_cases y : j = rF R
  · rw [if_pos y, if_pos y]
  · rw [if_neg y, if_neg y]
    exact et j (by omega)
theorem s_type {Q : Int32 → mmT → Prop} (hq : q < 65536) (hT : ST μ z) (hI : IMt μ z R) (h60 : rF R ≤ 60)
    (h1 : 32 ≤ q → q ≤ 126 → rF R < 60 → ∀ ν, Ag z μ ν (fun b => b = z + 584 ∨ b = z + 590) → (∀ F, F ≠ 320 → F ≠ 331 → mI ν F (z + 584) = mI μ F (z + 584)) → mI ν 320 (z + 584) = nI 0 → IMt ν z (rTy R q) → Q (nI (rF R + 1)) ν)
    (h2 : 32 ≤ q → q ≤ 126 → rF R = 60 → Q (nI 0) (sI μ 320 (z + 584) (nI 2))) (h0 : ¬ (32 ≤ q ∧ q ≤ 126) → Q (nI 0) (sI μ 320 (z + 584) (nI 1))) : w_X11_type G μ (z + 584) (nI q) Q := by
  obtain ⟨e1, et⟩ := hI
  have f : ∀ k : Int32, mI (sI μ 320 (z + 584) k) 320 (z + 584) = k := fun k => sI_e
  unfold w_X11_type w_X11_type_b30
  refine s_X11_in (fun c1 c2 => ?_) (fun c => ?_)
  · have d1 : 32 ≤ q := (nI_leI (by omega) (by omega)).mp c1
    have d2 : q ≤ 126 := (nI_leI (by omega) (by omega)).mp c2
    refine ⟨fun _ => ⟨hT.km, ?_⟩, fun z => absurd z (by decide)⟩
    rw [e1]
    refine ⟨fun c3 => ⟨z + 584, rfl, hT.km, hT.km, fun _ => ⟨z + 590, hT.tx.1, hT.tx.2.1, ?_⟩, fun c => absurd (by rw [f]; decide) c⟩, fun c3 => ⟨z + 584, rfl, hT.km, hT.km, fun c => absurd c (by rw [f]; decide), fun _ => h2 d1 d2 (nI_inj (by omega) (by decide) c3)⟩⟩
    have l60 : rF R < 60 := by
      have : rF R ≠ 60 := fun e => c3 (by rw [e])
      omega
    have e4 : mI (sI μ 320 (z + 584) (nI 0)) 331 (z + 584) = nI (rF R) := (sI_o (by omega)).trans e1
    rw [e4]
    refine ⟨vp_th hT.tx.2.2 l60 (by decide), ?_⟩
    have e5 : mI (sA (sI μ 320 (z + 584) (nI 0)) (z + 590) (nI (rF R)).toNatClampNeg (nI q)) 331 (z + 584) = nI (rF R) := e4
    rw [e5, nI_add, cl (by omega)]
    have g : Ag z μ (sI (sA (sI μ 320 (z + 584) (nI 0)) (z + 590) (rF R) (nI q)) 331 (z + 584) (nI (rF R + 1))) (fun b => b = z + 584 ∨ b = z + 590) := ((Ag_sI.tr Ag_sA).tr Ag_sI).up (fun b h => by omega)
    have e2 : mI (sI (sA (sI μ 320 (z + 584) (nI 0)) (z + 590) (rF R) (nI q)) 331 (z + 584) (nI (rF R + 1))) 331 (z + 584) = nI (rF R + 1) := sI_e
    have e0 : mI (sI (sA (sI μ 320 (z + 584) (nI 0)) (z + 590) (rF R) (nI q)) 331 (z + 584) (nI (rF R + 1))) 320 (z + 584) = nI 0 := (sI_o (by omega)).trans (sA_I.trans (f _))
    have e6 : ∀ F, F ≠ 320 → F ≠ 331 → mI (sI (sA (sI μ 320 (z + 584) (nI 0)) (z + 590) (rF R) (nI q)) 331 (z + 584) (nI (rF R + 1))) F (z + 584) = mI μ F (z + 584) := fun F h1 h2 => (sI_o (by omega)).trans (sA_I.trans (sI_o (by omega)))
    have e3 : ∀ j, mA (sI (sA (sI μ 320 (z + 584) (nI 0)) (z + 590) (rF R) (nI q)) 331 (z + 584) (nI (rF R + 1))) (z + 590) j = if j = rF R then nI q else mA μ (z + 590) j := fun j => by
      rw [sI_A]
      by_cases y : j = rF R
      · rw [if_pos y, y]
        exact sA_e
      · rw [if_neg y]
        exact sA_o (fun h => y h.2)
    generalize sI (sA (sI μ 320 (z + 584) (nI 0)) (z + 590) (rF R) (nI q)) 331 (z + 584) (nI (rF R + 1)) = ν at *
    rw [e2]
    refine h1 d1 d2 l60 ν g e6 e0 ⟨e2, fun j hj => ?_⟩
    rw [e3 j]
    show _ = nI (if j = rF R then q else rX R j)
    have hj2 : j < rF R + 1 := hj
    by_cases y : j = rF R
    · rw [if_pos y, if_pos y]
    · rw [if_neg y, if_neg y]
      exact et j (by omega)
  · refine ⟨fun z => absurd rfl z, fun _ => ⟨z + 584, rfl, hT.km, hT.km, fun c => absurd c (by rw [f]; decide), fun _ => h0 (fun d => c ⟨(nI_leI (by omega) (by omega)).mpr d.1, (nI_leI (by omega) (by omega)).mpr d.2⟩)⟩⟩
theorem JR_ty (hJ : JR B c R) (h1 : 32 ≤ q) (h2 : q ≤ 126) (h : rF R < 60) : JR B c (rTy R q) := by
  refine ⟨hJ.1, hJ.2.1, h, fun j hj => ?_, hJ.2.2.2.2⟩
  show 32 ≤ (if j = rF R then q else rX R j) ∧ (if j = rF R then q else rX R j) ≤ 126
  have hj2 : j < rF R + 1 := hj
  by_cases y : j = rF R
  · rw [if_pos y]
    exact ⟨h1, h2⟩
  · rw [if_neg y]
    exact hJ.2.2.2.1 j (by omega)
theorem l_49 (hk : Tn L K z i t B c) (hO : Ok μ z B c) : w_L_law_b2475 G o L xs K (some z) (some (z + 584)) (some (z + 593)) (some (z + 594)) (nI i) t μ := by
  obtain ⟨ht, v1, v2, hb, hc, kk⟩ := hk
  obtain ⟨hT, v, ct, V, R, ⟨hI, hR⟩, ⟨hM, hMr⟩, hV, hJ⟩ := hO
  have kk2 : Kk (fun ρ => t ≤ 512 ∧ (t ≤ 512 ∧ K (some z) (some (z + 584)) (some (z + 593)) (some (z + 594)) (nI i + nI 3) (t + 1) ρ)) z (B + 20000) (c + 12) := fun ρ h => ⟨ht, ht, kk ρ h⟩
  have h60 := hJ.2.2.1
  obtain ⟨q, hq, ex⟩ : ∃ q, q < 65536 ∧ ((xs (nI i + nI 1).toNatClampNeg).toUInt32 % 65536).toInt32 = nI q := ⟨_, Nat.mod_lt _ (by decide), pk_char _⟩
  have hn : vp_nar .char (nI q) = nI q := by
    rw [← ex]
    exact pk_vc _
  unfold w_L_law_b2475 w_L_law_b2530 w_L_law_b2766 w_L_type
  rw [ex]
  refine ⟨ht, v1, z, rfl, hT.kz, t_type hq hn hT hR.2.1 h60 (fun d1 d2 d3 ν g iT => ?_) (fun d1 d2 d3 => Or.inr ⟨rfl, v1, z + 584, rfl, hT.km, ?_⟩) (fun d => Or.inl ⟨rfl, v1, z + 584, rfl, hT.km, ?_⟩)⟩
  · have p1 := hT.ag g
    have p2 := ICv_ag hI g (fun b hb q => by omega)
    have p3 : ICr ν z (rTy R q) := ⟨ICs_ag hR.1 g (g.I (by omega)) (fun b hb q => by omega), iT, ICe_ag hR.2.2.1 (g.I (by omega)) (g.I (by omega)), ICo_ag hR.2.2.2 g (fun b hb q => by omega)⟩
    have p4 := IMv_ag hM g (g.I (by omega)) (fun b hb q => by omega)
    have p5 := IMr_ag hMr g (fun F _ _ => g.I (by omega)) (fun b hb q => by omega)
    have q1 : ST (sL ν (z + 593) (nI 0).toNatClampNeg (nI (rF R + 1)).toInt64) z := p1
    have q2 : ICv (sL ν (z + 593) (nI 0).toNatClampNeg (nI (rF R + 1)).toInt64) z v ct V := p2
    have q3 : ICr (sL ν (z + 593) (nI 0).toNatClampNeg (nI (rF R + 1)).toInt64) z (rTy R q) := p3
    have q4 : IMv (sL ν (z + 593) (nI 0).toNatClampNeg (nI (rF R + 1)).toInt64) z v ct V := p4
    have q5 : IMr (sL ν (z + 593) (nI 0).toNatClampNeg (nI (rF R + 1)).toInt64) z R := p5
    have eL : mL (sL ν (z + 593) (nI 0).toNatClampNeg (nI (rF R + 1)).toInt64) (z + 593) 0 = (nI (rF R + 1)).toInt64 := sL_e0
    refine ⟨z + 593, rfl, (hT.ag g).l.1, lvp (hT.ag g), v1, z + 584, rfl, q1.km, ?_⟩
    generalize sL ν (z + 593) (nI 0).toNatClampNeg (nI (rF R + 1)).toInt64 = σ at *
    refine s_type hq q1 q5.2.1 h60 (fun _ _ _ ρ g2 f f0 mT => ?_) (fun _ _ z => by omega) (fun z => absurd ⟨d1, d2⟩ z)
    have hO : Ok ρ z (B + 20000) (c + 12) := by
      refine ⟨q1.ag g2, v, ct, V, rTy R q, ⟨ICv_ag q2 g2 (fun b hb q => by omega), ICr_ag q3 g2 (fun b hb q => by omega)⟩, ⟨IMv_ag q4 g2 (f _ (by omega) (by omega)) (fun b hb q => by omega), ?_, mT, ?_, ?_⟩, JV_mono hV (by omega) (by omega), JR_mono (JR_ty hJ d1 d2 d3) (by omega) (by omega)⟩
      · exact ⟨(f _ (by omega) (by omega)).trans q5.1.1, fun e q hq => (g2.A (by omega)).trans (q5.1.2 e q hq)⟩
      · exact ⟨(f _ (by omega) (by omega)).trans q5.2.2.1.1, (f _ (by omega) (by omega)).trans q5.2.2.1.2⟩
      · exact ⟨(f _ (by omega) (by omega)).trans q5.2.2.2.1, fun i hi => (g2.A (by omega)).trans (q5.2.2.2.2 i hi)⟩
    exact cmp_ok (K := (fun ρ => t ≤ 512 ∧ (t ≤ 512 ∧ K (some z) (some (z + 584)) (some (z + 593)) (some (z + 594)) (nI i + nI 3) (t + 1) ρ))) hO.1 f0 (fun _ => by rw [g2.L]; exact eL) (kk2 _ hO)
  · have hO := ok_s hT hI hR hM hMr hV hJ (k := nI 2)
    refine s_type hq hT hMr.2.1 h60 (fun _ _ z => by omega) (fun _ _ _ => ?_) (fun z => absurd ⟨d1, d2⟩ z)
    exact cmp_ok (K := (fun ρ => t ≤ 512 ∧ (t ≤ 512 ∧ K (some z) (some (z + 584)) (some (z + 593)) (some (z + 594)) (nI i + nI 3) (t + 1) ρ))) hO.1 sI_e (fun e => absurd e (by decide)) (kk2 _ hO)
  · have hO := ok_s hT hI hR hM hMr hV hJ (k := nI 1)
    refine s_type hq hT hMr.2.1 h60 (fun a1 a2 _ => absurd ⟨a1, a2⟩ d) (fun a1 a2 _ => absurd ⟨a1, a2⟩ d) (fun _ => ?_)
    exact cmp_ok (K := (fun ρ => t ≤ 512 ∧ (t ≤ 512 ∧ K (some z) (some (z + 584)) (some (z + 593)) (some (z + 594)) (nI i + nI 3) (t + 1) ρ))) hO.1 sI_e (fun e => absurd e (by decide)) (kk2 _ hO)
end TEXT

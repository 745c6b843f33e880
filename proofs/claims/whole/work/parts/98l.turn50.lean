/-! THE LAW: A SCRIPT IS RUN -/
section LAW50
variable {G : mgT} {μ ν ρ σ τ π : mmT} {z a b c c2 m i F nx ct t o L N : Nat} {S S2 : cT} {v w v0 : Nat → Nat} {V : Nat → Nat → Nat} {R R0 : rT} {B B2 : Nat} {x : Int32} {xs : Nat → Int32} {K : Option Nat → Option Nat → Option Nat → Option Nat → Int32 → Nat → mmT → Prop} {P : Nat → Prop}
def mRe (ν : mmT) (r : Nat → Nat → Option Nat) : mmT := (mK ν, mN ν, mI ν, r, mA ν, mB ν, mL ν, mD ν)
theorem Ap.agR (g : Ap z μ ν P) : Ag z μ (mRe ν (mR μ)) (fun b => b = z + 519 ∨ P b) :=
  ⟨⟨g.1.1, g.1.2.1, rfl⟩, fun b hb => ⟨fun F => (g.2.2.1 b (fun e => hb (Or.inl e)) (fun e => hb (Or.inr e))).1 F, fun i => congrFun (congrFun g.1.2.2.1 b) i, fun i => congrFun (congrFun g.1.2.2.2.1 b) i⟩, fun b _ i => congrFun (congrFun g.1.2.2.2.1 b) i, g.1.2.2.2.2⟩
/-- behind the splitting, the text is given back -/
theorem ap_all (hT : ST μ z) (hI : ICv μ z v ct V) (hR : ICr μ z R) (hM : IMv μ z v ct V) (hMr : IMr μ z R) (g : Ap z μ ν (Pq z)) :
    ST (sI ν 194 (z + 519) (nI 0)) z ∧ ICv (sI ν 194 (z + 519) (nI 0)) z v ct V ∧ ICr (sI ν 194 (z + 519) (nI 0)) z (Rn R (rE R) (rG R)) ∧ IMv (sI ν 194 (z + 519) (nI 0)) z v ct V ∧ IMr (sI ν 194 (z + 519) (nI 0)) z R := by
  have g1 : Ag z μ (sI (mRe ν (mR μ)) 194 (z + 519) (nI 0)) (fun b => z + 519 ≤ b ∧ b < z + 582) := (g.agR.tr Ag_sI).up (fun b hb => by
    rcases hb with (hb | hb) | hb
    · omega
    · have : z + 522 ≤ b ∧ b < z + 582 := hb
      omega
    · omega)
  have a1 : ICv (sI (mRe ν (mR μ)) 194 (z + 519) (nI 0)) z v ct V := ICv_ag hI g1 (fun b hb q => by omega)
  have a2 : ICs (sI (mRe ν (mR μ)) 194 (z + 519) (nI 0)) z R := ICs_ag hR.1 g1 (g1.I (by omega)) (fun b hb q => by omega)
  have a3 : ICe (sI (mRe ν (mR μ)) 194 (z + 519) (nI 0)) z R := ICe_ag hR.2.2.1 (g1.I (by omega)) (g1.I (by omega))
  have a4 : ICo (sI (mRe ν (mR μ)) 194 (z + 519) (nI 0)) z R := ICo_ag hR.2.2.2 g1 (fun b hb q => by omega)
  have a5 : IMv (sI (mRe ν (mR μ)) 194 (z + 519) (nI 0)) z v ct V := IMv_ag hM g1 (g1.I (by omega)) (fun b hb q => by omega)
  have a6 : IMr (sI (mRe ν (mR μ)) 194 (z + 519) (nI 0)) z R := IMr_ag hMr g1 (fun F _ _ => g1.I (by omega)) (fun b hb q => by omega)
  have a7 : mI (sI (mRe ν (mR μ)) 194 (z + 519) (nI 0)) 194 (z + 519) = nI 0 := sI_e
  exact ⟨(ST_ap hT g).ag Ag_sI, a1, ⟨a2, ⟨a7, fun i hi => absurd hi (Nat.not_lt_zero _)⟩, a3, a4⟩, a5, a6⟩
theorem al_ag (hT : ST μ z) (hR : ICr μ z R0) (hM : IMv μ z v ct V) (hMr : IMr μ z R) (g : Ag z μ ν (Pc z)) : ST ν z ∧ ICr ν z R0 ∧ IMv ν z v ct V ∧ IMr ν z R :=
  ⟨hT.ag g, ICr_ag hR g (fun b hb q => by rcases q with q | q <;> omega), IMv_ag hM g (g.I (fun q => by rcases q with q | q <;> omega)) (fun b hb q => by rcases q with q | q <;> omega), IMr_ag hMr g (fun F _ _ => g.I (fun q => by rcases q with q | q <;> omega)) (fun b hb q => by rcases q with q | q <;> omega)⟩
/-- .. and behind the reference -/
theorem al_end (hT : ST σ z) (hI : ICv σ z w c2 V) (hR : ICr σ z R0) (g : Ag z σ ρ (Pr z)) (hM : IMv ρ z w c2 V) (hMr : IMr ρ z R0) (hV : JV B c w c2 V) (hJ : JR B c R0) : Ok ρ z B c :=
  ⟨hT.ag g, w, c2, V, R0, ⟨ICv_ag hI g (fun b hb q => by rcases q with q | q | q | q | q <;> omega), ICr_ag hR g (fun b hb q => by rcases q with q | q | q | q | q <;> omega)⟩, ⟨hM, hMr⟩, hV, hJ⟩
theorem bN_ok0 {M : Nat} (h : N ≤ 11) (hb : B + 20000 < M) : B + 1300 * (N + 1) + 1300 < M := by
  have h3 : 1300 * (N + 1) ≤ 1300 * 12 := Nat.mul_le_mul_left 1300 (Nat.succ_le_succ h)
  generalize 1300 * (N + 1) = T at *
  have h4 : B + T + 1300 ≤ B + 1300 * 12 + 1300 := Nat.add_le_add_right (Nat.add_le_add_left h3 B) 1300
  exact Nat.lt_of_le_of_lt h4 (Nat.lt_of_le_of_lt (show B + 1300 * 12 + 1300 ≤ B + 20000 from by rw [Nat.add_assoc]; exact Nat.add_le_add_left (by decide) B) hb)
theorem bN_ok (h : N ≤ 11) (hb : B + 20000 < 2 ^ 26) : B + 1300 * (N + 1) + 1300 < 2 ^ 26 := bN_ok0 h hb
theorem l_50 (hk : Tn L K z i t B c) (hO : Ok μ z B c) (hb3 : B + 20000 < 2 ^ 26) : w_L_law_b2533 G o L xs K (some z) (some (z + 584)) (some (z + 593)) (some (z + 594)) (nI i) t μ := by
  obtain ⟨ht, v1, v2, hb, hcc, kk⟩ := hk
  obtain ⟨hT, v, ct, V, R, ⟨hI, hR⟩, ⟨hM, hMr⟩, hV, hJ⟩ := hO
  have kk2 : Kk (fun ρ => t ≤ 512 ∧ (t ≤ 512 ∧ K (some z) (some (z + 584)) (some (z + 593)) (some (z + 594)) (nI i + nI 3) (t + 1) ρ)) z (B + 20000) (c + 12) := fun ρ h => ⟨ht, ht, kk ρ h⟩
  have l := hV.1.1.1.1
  have hF := hJ.2.2.1
  have hX : ∀ i, i < rF R → rX R i ≤ 126 := fun i hi => (hJ.2.2.2.1 i hi).2
  obtain ⟨N, hN, hn⟩ := sS_x (X := rX R) (F := rF R) 13 0 (fun k hk => absurd hk (Nat.not_lt_zero _)) (by omega)
  have hbs := sS_b (X := rX R) (F := rF R) N hN
  unfold w_L_law_b2533 w_L_law_b2574 w_L_law_b2766 w_L_runScript w_X10_runScript
  refine ⟨ht, z, rfl, hT.kz, hT.kz, z + 519, hT.z6, hT.t.1, t_split hF hX hT hR.2.1 hN hn (fun ν g e6 hc => ?_)⟩
  have hT1 := ST_ap hT g
  refine ⟨hT1.kz, z + 519, hT1.z6, hT1.t.1, ?_⟩
  obtain ⟨sT', sI', sR', sM, sMr⟩ := ap_all hT hI hR hM hMr g
  have e6' : mI (sI ν 194 (z + 519) (nI 0)) 196 (z + 519) = nI (stp (rX R) (rF R) (sS (rX R) (rF R) N)) := (sI_o (by omega)).trans e6
  have hc' : fv (rX R) (rF R) N = true → CsC G (sI ν 194 (z + 519) (nI 0)) z (rX R) (rF R) N := fun q => ⟨(sI_o (by omega)).trans (hc q).1, fun j hj => by
    obtain ⟨c1, x, y, c2, c3⟩ := (hc q).2 j hj
    exact ⟨by rw [sI_R]; exact c1, x, y, (sI_o (by omega)).trans c2, (sI_o (by omega)).trans c3⟩⟩
  generalize sI ν 194 (z + 519) (nI 0) = σ at *
  by_cases hv : fv (rX R) (rF R) N = true
  · rw [if_pos hv]
    obtain ⟨ok, st⟩ := fv_t.mp hv
    have hs4 := ((stp_b (X := rX R) hbs.2).2.2 ok).1
    have hok : ∀ j, j ≤ N → okp (rX R) (rF R) (sS (rX R) (rF R) j) = true ∧ sS (rX R) (rF R) j ≤ rF R := fun j hj => by
      refine ⟨?_, (sS_b j (fun k hk => hN k (by omega))).2⟩
      by_cases e : j = N
      · rw [e]; exact ok
      · exact (hN j (by omega)).1
    refine ⟨fun _ => ⟨z + 44, sT'.z2, sT'.s2.1, ?_⟩, fun q => absurd q (by decide)⟩
    rw [sT'.z1]
    refine w_copy (z := z) R0_2 sT'.s2 sT'.s1 (by omega) sI'.2.1 sI'.1 l (fun τ g2 s44 => ⟨N + 2, ?_⟩)
    have gc : Ag z σ τ (Pc z) := g2.up (fun b hb => Or.inl (by omega))
    obtain ⟨tT, tR, tM, tMr⟩ := al_ag sT' sR' sM sMr gc
    have t1 : St τ (z + 1) v := St_ag sI'.1 g2 (fun b h1 h2 q => by omega)
    have t87 : Sf τ (z + 87) := Sf_ag sI'.2.2.1 g2 (fun b h1 h2 q => by omega)
    obtain ⟨nx, sH⟩ := sI'.2.2.2
    have tH : HC τ z nx ct V := HC_ag sH g2 (fun b h1 h2 q => by omega)
    have tC : CsC G τ z (rX R) (rF R) N := ⟨(g2.I (by omega)).trans (hc' hv).1, fun j hj => by
      obtain ⟨c1, x, y, c2, c3⟩ := (hc' hv).2 j hj
      exact ⟨by rw [g2.r]; exact c1, x, y, (g2.I (by omega)).trans c2, (g2.I (by omega)).trans c3⟩⟩
    obtain ⟨S, eS, rS⟩ := t1
    have n11 : N ≤ 11 := by omega
    have n12 : N ≤ 12 := Nat.le_trans n11 (by decide)
    have bN := bN_ok n11 hb3
    have hrun := runs (X := rX R) (F := rF R) (N := N) n12 hok (N + 1) 0 B c v (Nat.zero_add _) hV.1 hb.1 bN
    rcases hrun with ⟨w, hw, c1, m1⟩ | ⟨q, w, hq, hw, c1, m1⟩
    · have key : ∀ (Q : Int32 → mmT → Prop) (Xx : String → mmT → Prop), (∀ S', Rel S' w 4 16 → w_X10_runScript_l55 G z Q Xx 1 (nI (N + 1)) (CT τ (z + 1) S')) → w_X10_runScript_l55 G z Q Xx (N + 2) (nI 0) τ := fun Q Xx h => by
        have := c1 G z τ S Q Xx tT tC rS h
        rw [BT_self eS] at this
        exact this
      refine key _ _ (fun S' r' => ?_)
      have g3 : Ag z τ (CT τ (z + 1) S') (fun b => z + 1 ≤ b ∧ b < z + 1 + 43) := Ag_CT R0_1
      obtain ⟨uT, uR, uM, uMr⟩ := al_ag tT tR tM tMr (g3.up (P2 := Pc z) (fun b hb => Or.inl (by omega)))
      have u1 : St (CT τ (z + 1) S') (z + 1) w := St_CT r'
      have u44 : St (CT τ (z + 1) S') (z + 44) v := St_ag s44 g3 (fun b h1 h2 q => by omega)
      have u87 : Sf (CT τ (z + 1) S') (z + 87) := Sf_ag t87 g3 (fun b h1 h2 q => by omega)
      have uH : HC (CT τ (z + 1) S') z nx ct V := HC_ag tH g3 (fun b h1 h2 q => by omega)
      have u5 : mI (CT τ (z + 1) S') 195 (z + 519) = nI (N + 1) := (g3.I (by omega)).trans tC.1
      generalize CT τ (z + 1) S' = η at *
      refine ⟨uT.kz, z + 519, uT.z6, uT.t.1, ?_⟩
      rw [u5]
      refine ⟨fun _ => ⟨z + 173, uT.z5, uT.h, ?_⟩, fun e => absurd (nI_le (Nat.le_refl _) (by omega)) e⟩
      rw [uT.z2]
      refine t_remember uT uH u44 l (fun π g5 h5 => ?_)
      obtain ⟨pT, pR, pM, pMr⟩ := al_ag uT uR uM uMr (g5.up (P2 := Pc z) (fun b hb => Or.inr (by omega)))
      have p5 : mI π 195 (z + 519) = nI (N + 1) := (g5.I (by omega)).trans u5
      have pI : ICv π z w (ctP ct) (vP ct V v) := ⟨St_ag u1 g5 (fun b h1 h2 q => by omega), (St_ag u44 g5 (fun b h1 h2 q => by omega)).f, Sf_ag u87 g5 (fun b h1 h2 q => by omega), _, h5⟩
      refine ⟨pT.kz, z + 519, pT.z6, pT.t.1, ?_⟩
      rw [p5]
      have q1 : ST (sL π (z + 593) (nI 0).toNatClampNeg (nI (N + 1)).toInt64) z := pT
      have q2 : ICv (sL π (z + 593) (nI 0).toNatClampNeg (nI (N + 1)).toInt64) z w (ctP ct) (vP ct V v) := pI
      have q3 : ICr (sL π (z + 593) (nI 0).toNatClampNeg (nI (N + 1)).toInt64) z (Rn R (rE R) (rG R)) := pR
      have q4 : IMv (sL π (z + 593) (nI 0).toNatClampNeg (nI (N + 1)).toInt64) z v ct V := pM
      have q5 : IMr (sL π (z + 593) (nI 0).toNatClampNeg (nI (N + 1)).toInt64) z R := pMr
      have eL : mL (sL π (z + 593) (nI 0).toNatClampNeg (nI (N + 1)).toInt64) (z + 593) 0 = (nI (N + 1)).toInt64 := sL_e0
      refine ⟨z + 593, rfl, pT.l.1, lvp pT, z + 584, rfl, q1.km, ?_⟩
      generalize sL π (z + 593) (nI 0).toNatClampNeg (nI (N + 1)).toInt64 = θ at *
      refine s_scrD q1 q4 hV.2.1 q5 hF hX hN hn hv m1 (fun ρ g6 f0 iM iMr => ?_)
      have hO := al_end q1 q2 q3 g6 iM iMr (JV_push (B2 := B + 20000) (c2 := c + 12) hV (by omega) (by omega) (JB_mono hw (by omega) (by omega))) (JR_mono (JR_n hJ) (by omega) (by omega))
      exact cmp_ok (K := (fun ρ => t ≤ 512 ∧ (t ≤ 512 ∧ K (some z) (some (z + 584)) (some (z + 593)) (some (z + 594)) (nI i + nI 3) (t + 1) ρ))) hO.1 f0 (fun _ => by rw [g6.L]; exact eL) (kk2 _ hO)
    · have key : ∀ (Q : Int32 → mmT → Prop) (Xx : String → mmT → Prop), (∀ S', Rel S' w 4 16 → cE G z Xx (nI q) (CT τ (z + 1) S')) → w_X10_runScript_l55 G z Q Xx (N + 2) (nI 0) τ := fun Q Xx h => by
        have := c1 G z τ S Q Xx tT tC rS h
        rw [BT_self eS] at this
        exact this
      refine key _ _ (fun S' r' => ?_)
      have g3 : Ag z τ (CT τ (z + 1) S') (fun b => z + 1 ≤ b ∧ b < z + 1 + 43) := Ag_CT R0_1
      obtain ⟨uT, uR, uM, uMr⟩ := al_ag tT tR tM tMr (g3.up (P2 := Pc z) (fun b hb => Or.inl (by omega)))
      have u1 : Sf (CT τ (z + 1) S') (z + 1) := (St_CT r').f
      have u44 : St (CT τ (z + 1) S') (z + 44) v := St_ag s44 g3 (fun b h1 h2 q => by omega)
      have u87 : Sf (CT τ (z + 1) S') (z + 87) := Sf_ag t87 g3 (fun b h1 h2 q => by omega)
      have uH : HC (CT τ (z + 1) S') z nx ct V := HC_ag tH g3 (fun b h1 h2 q => by omega)
      generalize CT τ (z + 1) S' = η at *
      refine ⟨uT.kz, z + 1, uT.z1, uT.s1.1, ?_⟩
      rw [uT.z2]
      refine w_copy (z := z) R0_1 uT.s1 uT.s2 (by omega) u1 u44 l (fun π g5 s1 => ?_)
      obtain ⟨pT, pR, pM, pMr⟩ := al_ag uT uR uM uMr (g5.up (P2 := Pc z) (fun b hb => Or.inl (by omega)))
      have pI : ICv π z v ct V := ⟨s1, Sf_ag u44.f g5 (fun b h1 h2 q => by omega), Sf_ag u87 g5 (fun b h1 h2 q => by omega), _, HC_ag uH g5 (fun b h1 h2 q => by omega)⟩
      refine ⟨pT.kz, Or.inr ⟨rfl, z + 584, rfl, pT.km, ?_⟩⟩
      have gz : Ag z π (sI π 297 z (nI q)) (fun b => b = z) := Ag_sI
      have q1 : ST (sI π 297 z (nI q)) z := pT.ag gz
      have q2 : ICv (sI π 297 z (nI q)) z v ct V := ICv_ag pI gz (fun b hb q => by omega)
      have q3 : ICr (sI π 297 z (nI q)) z (Rn R (rE R) (nI q)) := ⟨ICs_ag (R := Rn R (rE R) (nI q)) pR.1 gz (sI_o (by omega)) (fun b hb q => by omega), ICt_ag (R := Rn R (rE R) (nI q)) pR.2.1 gz (fun b hb q => by omega), ⟨(sI_o (by omega)).trans pR.2.2.1.1, sI_e⟩, ICo_ag (R := Rn R (rE R) (nI q)) pR.2.2.2 gz (fun b hb q => by omega)⟩
      have q4 : IMv (sI π 297 z (nI q)) z v ct V := IMv_ag pM gz (gz.I (by omega)) (fun b hb q => by omega)
      have q5 : IMr (sI π 297 z (nI q)) z R := IMr_ag pMr gz (fun F _ _ => gz.I (by omega)) (fun b hb q => by omega)
      generalize sI π 297 z (nI q) = θ at *
      refine s_scrF q1 q4 q5 hF hX hN hn hv m1 (fun ρ g6 f0 iM iMr => ?_)
      have bw : JB (B + 20000) (c + 12) w := JB_mono hw (by omega) (by omega)
      have bv : JV (B + 20000) (c + 12) v ct V := JV_mono hV (by omega) (by omega)
      have hO := al_end q1 (ICv_8 q2 l mx_lo) q3 g6 iM iMr (JV_pop bv (JB_8 bv.1 mx_lo (Bd_mx bv.1.1.2.2 bw.1.2.2)) (Nat.le_refl _)) (JR_mono (JR_n hJ) (by omega) (by omega))
      exact cmp_ok (K := (fun ρ => t ≤ 512 ∧ (t ≤ 512 ∧ K (some z) (some (z + 584)) (some (z + 593)) (some (z + 594)) (nI i + nI 3) (t + 1) ρ))) hO.1 f0 (fun e => absurd e (by decide)) (kk2 _ hO)
  · rw [if_neg hv]
    refine ⟨fun q => absurd rfl q, fun _ => ⟨z + 519, sT'.z6, sT'.t.1, ?_⟩⟩
    rw [e6']
    generalize hE : nI (stp (rX R) (rF R) (sS (rX R) (rF R) N)) = E at *
    refine Or.inl ⟨rfl, z + 584, rfl, sT'.km, ?_⟩
    have gz : Ag z σ (sI σ 296 z E) (fun b => b = z) := Ag_sI
    have q1 : ST (sI σ 296 z E) z := sT'.ag gz
    have q2 : ICv (sI σ 296 z E) z v ct V := ICv_ag sI' gz (fun b hb q => by omega)
    have q3 : ICr (sI σ 296 z E) z (Rn R E (rG R)) := ⟨ICs_ag (R := Rn R E (rG R)) sR'.1 gz (sI_o (by omega)) (fun b hb q => by omega), ICt_ag (R := Rn R E (rG R)) sR'.2.1 gz (fun b hb q => by omega), ⟨sI_e, (sI_o (by omega)).trans sR'.2.2.1.2⟩, ICo_ag (R := Rn R E (rG R)) sR'.2.2.2 gz (fun b hb q => by omega)⟩
    have q4 : IMv (sI σ 296 z E) z v ct V := IMv_ag sM gz (gz.I (by omega)) (fun b hb q => by omega)
    have q5 : IMr (sI σ 296 z E) z R := IMr_ag sMr gz (fun F _ _ => gz.I (by omega)) (fun b hb q => by omega)
    generalize sI σ 296 z E = θ at *
    refine s_scrE q1 q4 q5 hF hX hN hn hv (fun ρ g6 f0 iM iMr => ?_)
    rw [hE] at iMr
    have hO := al_end q1 q2 q3 g6 iM iMr (JV_mono (B2 := B + 20000) (c2 := c + 12) hV (by omega) (by omega)) (JR_mono (JR_n hJ) (by omega) (by omega))
    exact cmp_ok (K := (fun ρ => t ≤ 512 ∧ (t ≤ 512 ∧ K (some z) (some (z + 584)) (some (z + 593)) (some (z + 594)) (nI i + nI 3) (t + 1) ρ))) hO.1 f0 (fun e => absurd e (by decide)) (kk2 _ hO)
end LAW50

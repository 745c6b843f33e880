/-! A SCRIPT IS RUN, AS THE LAW CALLS IT -/
section RUNC
variable {G : mgT} {μ ν ρ σ μ0 : mmT} {z m i j k F n o f g s d N q ct : Nat} {S S2 : cT} {v w v0 : Nat → Nat} {X : Nat → Nat} {a b a2 b2 x y : Int32} {B c : Nat} {P P2 : Nat → Prop} {V : Nat → Nat → Nat} {R : rT} {E Gf : Int32}
theorem o_run (hg : g < 9) (h : JB B c v) (hb : Bo B) : ∃ ec : List Int32, (∀ q, q ∈ ec → q < 0) ∧ OpC B c v (W8 g a b) ec := by
  match g, hg with
  | 0, _ => exact ⟨_, by decide, o_open h hb⟩
  | 1, _ => exact ⟨_, by decide, o_hire h hb⟩
  | 2, _ => exact ⟨_, by decide, o_post h hb⟩
  | 3, _ => exact ⟨_, by decide, o_read h hb⟩
  | 4, _ => exact ⟨_, by decide, o_cancel h hb⟩
  | 5, _ => exact ⟨_, by decide, o_wind h hb⟩
  | 6, _ => exact ⟨_, by decide, o_forget h hb⟩
  | 7, _ => exact ⟨_, by decide, o_pass h hb⟩
  | 8, _ => exact ⟨_, by decide, o_pass h hb⟩
theorem crun (hN : N ≤ 12) (hok : ∀ j, j ≤ N → okp X F (sS X F j) = true ∧ sS X F j ≤ F) : ∀ (d k B c : Nat) (v : Nat → Nat), k + d = N + 1 → JB B c v → 119 ≤ B → B + 1300 * d + 1300 < 2 ^ 26 →
    (∃ w, JB (B + 1300 * d) (c + d) w ∧ cDn X F N k d v w) ∨ (∃ q w, q ≤ N ∧ JB (B + 1300 * d) (c + d) w ∧ cFl X F N k d q v w) := by
  intro d
  induction d with
  | zero =>
    intro k B c v hk hv hB hB2
    obtain rfl : k = N + 1 := by omega
    exact Or.inl ⟨v, hv, fun G z ν S Q Xx hT hC r h => h S r⟩
  | succ d ih =>
    intro k B c v hk hv hB hB2
    obtain ⟨ok, hs⟩ := hok k (by omega)
    obtain ⟨ec, hec, hp⟩ := o_run (a := vA X F (sS X F k)) (b := vB X F (sS X F k)) ((stp_b (X := X) hs).2.2 ok).2 hv ⟨hB, by omega⟩
    rcases hp with ⟨r, w1, hr, hw, A8⟩ | ⟨q, hq, A8⟩
    · have c1 : ∀ (G : mgT) (z : Nat) (ν : mmT) (S : cT) (Q : Int32 → mmT → Prop) (Xx : String → mmT → Prop), ST ν z → CsC G ν z X F N → Rel S v 4 16 → (∀ S', Rel S' w1 4 16 → w_X10_runScript_l55 G z Q Xx (d + 1) (nI (k + 1)) (CT ν (z + 1) S')) → w_X10_runScript_l55 G z Q Xx (d + 1 + 1) (nI k) (CT ν (z + 1) S) := by
        intro G z ν S Q Xx hT hC r1 h
        refine c_step ok hs (by omega) (by omega) hT hC (A8 G ν (z + 1) S _ hT.s1 r1 (fun S' r' => ⟨fun _ => ?_, fun e => absurd ?_ e⟩))
        · rw [nI_add]; exact h S' r'
        · exact nI_le (a := 0) (by omega) hr
      rcases ih (k + 1) (B + 1300) (c + 1) w1 (by omega) hw (by omega) (by omega) with ⟨w, h1, h2⟩ | ⟨q, w, h1, h0, h2⟩
      · exact Or.inl ⟨w, JB_mono h1 (by omega) (by omega), fun G z ν S Q Xx hT hC r1 h => c1 G z ν S Q Xx hT hC r1 (fun S' r' => h2 G z ν S' Q Xx hT hC r' h)⟩
      · exact Or.inr ⟨q, w, h1, JB_mono h0 (by omega) (by omega), fun G z ν S Q Xx hT hC r1 h => c1 G z ν S Q Xx hT hC r1 (fun S' r' => h2 G z ν S' Q Xx hT hC r' h)⟩
    · have hk2 := hec q hq
      exact Or.inr ⟨k, v, by omega, JB_mono hv (by omega) (by omega), fun G z ν S Q Xx hT hC r1 h => c_step ok hs (by omega) (by omega) hT hC (A8 G ν (z + 1) S _ hT.s1 r1 ⟨fun e => absurd (Int32.not_lt.mpr e) (fun x => x hk2), fun _ => h S r1⟩)⟩
def Rn (R : rT) (E Gf : Int32) : rT := (R.1, ((0, rX R), ((E, Gf), R.2.2.2)))
def Rn' (R : rT) (E Gf : Int32) : rT := (R.1, ((rF R, rX R), ((E, Gf), R.2.2.2)))
theorem JR_n (h : JR B c R) : JR B c (Rn R E Gf) := ⟨h.1, h.2.1, Nat.zero_le _, fun i hi => absurd hi (Nat.not_lt_zero _), h.2.2.2.2⟩
theorem ap_all (hT : ST μ z) (hI : ICv μ z v ct V) (hR : ICr μ z R) (g : Ap z μ ν (Pq z)) :
    ST (sI ν 194 (z + 519) (nI 0)) z ∧ ICv (sI ν 194 (z + 519) (nI 0)) z v ct V ∧ ICr (sI ν 194 (z + 519) (nI 0)) z (Rn R (rE R) (rG R)) := by
  have g1 : Ag z μ (sI (mRe ν (mR μ)) 194 (z + 519) (nI 0)) (fun b => z + 519 ≤ b ∧ b < z + 582) := (g.agR.tr Ag_sI).up (fun b hb => by
    rcases hb with (hb | hb) | hb
    · omega
    · have : z + 522 ≤ b ∧ b < z + 582 := hb
      omega
    · omega)
  have a1 : ICv (sI (mRe ν (mR μ)) 194 (z + 519) (nI 0)) z v ct V := ICv_ag hI g1 (fun b hb q => by omega)
  have a2 : ICs (sI (mRe ν (mR μ)) 194 (z + 519) (nI 0)) z R := ICs_ag hR.1 g1 (g1.I (by omega)) (fun b hb q => by omega)
  have a3 : ICe (sI (mRe ν (mR μ)) 194 (z + 519) (nI 0)) z R := ICe_ag hR.2.2.1 (g1.I (by omega)) (g1.I (by omega))
  have a4 : ICo (sI (mRe ν (mR μ)) 194 (z + 519) (nI 0)) z R := ICo_ag hR.2.2.2 g1 (fun b hb q => by omega)
  have a7 : mI (sI (mRe ν (mR μ)) 194 (z + 519) (nI 0)) 194 (z + 519) = nI 0 := sI_e
  exact ⟨(ST_ap hT g).ag Ag_sI, a1, ⟨a2, ⟨a7, fun i hi => absurd hi (Nat.not_lt_zero _)⟩, a3, a4⟩⟩
theorem ICr_e1 {E' : Int32} (hR : ICr μ z R) : ICr (sI μ 296 z E') z (Rn' R E' (rG R)) ∧ ICr (sI μ 297 z E') z (Rn' R (rE R) E') := by
  have g1 : Ag z μ (sI μ 296 z E') (fun b => b = z) := Ag_sI
  have g2 : Ag z μ (sI μ 297 z E') (fun b => b = z) := Ag_sI
  exact ⟨⟨ICs_ag (R := Rn' R E' (rG R)) hR.1 g1 (sI_o (by omega)) (fun b hb q => by omega), ICt_ag (R := Rn' R E' (rG R)) hR.2.1 g1 (fun b hb q => by omega), ⟨sI_e, (sI_o (by omega)).trans hR.2.2.1.2⟩, ICo_ag (R := Rn' R E' (rG R)) hR.2.2.2 g1 (fun b hb q => by omega)⟩,
    ⟨ICs_ag (R := Rn' R (rE R) E') hR.1 g2 (sI_o (by omega)) (fun b hb q => by omega), ICt_ag (R := Rn' R (rE R) E') hR.2.1 g2 (fun b hb q => by omega), ⟨(sI_o (by omega)).trans hR.2.2.1.1, sI_e⟩, ICo_ag (R := Rn' R (rE R) E') hR.2.2.2 g2 (fun b hb q => by omega)⟩⟩
theorem l_runScript {Q : Int32 → mmT → Prop} (hO : Iv μ z B c v ct V) (hb : 119 ≤ B) (hb3 : B + 20000 < 2 ^ 26) (hD : TD Q μ z B c v ct V) (hF : TF2 Q μ z B c v ct V) : w_L_runScript G μ (some z) Q := by
  obtain ⟨hT, hI, hV, R, hR, hJ⟩ := hO
  have l := hV.1.1.1.1
  have hF60 := hJ.2.2.1
  have hX : ∀ i, i < rF R → rX R i ≤ 126 := fun i hi => (hJ.2.2.2.1 i hi).2
  obtain ⟨N, hN, hn⟩ := sS_x (X := rX R) (F := rF R) 13 0 (fun k hk => absurd hk (Nat.not_lt_zero _)) (by omega)
  have hbs := sS_b (X := rX R) (F := rF R) N hN
  unfold w_L_runScript w_X10_runScript
  refine ⟨z, rfl, hT.kz, hT.kz, z + 519, hT.z6, hT.t.1, t_split hF60 hX hT hR.2.1 hN hn (fun ν g e6 hc => ?_)⟩
  have hT1 := ST_ap hT g
  refine ⟨hT1.kz, z + 519, hT1.z6, hT1.t.1, ?_⟩
  obtain ⟨sT', sI', sR'⟩ := ap_all hT hI hR g
  have kp1 : Kp z μ (sI ν 194 (z + 519) (nI 0)) := g.kp.tr (Ag_sI (z := z)).kp
  have e6' : mI (sI ν 194 (z + 519) (nI 0)) 196 (z + 519) = nI (stp (rX R) (rF R) (sS (rX R) (rF R) N)) := (sI_o (by omega)).trans e6
  have hc' : fv (rX R) (rF R) N = true → CsC G (sI ν 194 (z + 519) (nI 0)) z (rX R) (rF R) N := fun q => ⟨(sI_o (by omega)).trans (hc q).1, fun j hj => by
    obtain ⟨c1, x, y, c2, c3⟩ := (hc q).2 j hj
    exact ⟨by rw [sI_R]; exact c1, x, y, (sI_o (by omega)).trans c2, (sI_o (by omega)).trans c3⟩⟩
  have hJn : JR (B + 20000) (c + 12) (Rn R (rE R) (rG R)) := JR_n (JR_mono hJ (by omega) (by omega))
  generalize sI ν 194 (z + 519) (nI 0) = σ at *
  by_cases hv : fv (rX R) (rF R) N = true
  · rw [if_pos hv]
    obtain ⟨ok, st⟩ := fv_t.mp hv
    have hs4 := ((stp_b (X := rX R) hbs.2).2.2 ok).1
    have hok : ∀ j, j ≤ N → okp (rX R) (rF R) (sS (rX R) (rF R) j) = true ∧ sS (rX R) (rF R) j ≤ rF R := fun j hj => by
      refine ⟨?_, (sS_b j (fun k hk => hN k (by omega))).2⟩
      by_cases e : j = N
      · rw [e]; exact ok
      · exact (hN j (by omega)).1
    refine ⟨fun _ => ⟨z + 44, sT'.z2, sT'.s2.1, ?_⟩, fun q => absurd q (by decide)⟩
    rw [sT'.z1]
    refine w_copy (z := z) R0_2 sT'.s2 sT'.s1 (by omega) sI'.2.1 sI'.1 l (fun τ g2 s44 => ⟨N + 2, ?_⟩)
    have gc : Ag z σ τ (Pc z) := g2.up (fun b hb => Or.inl (by omega))
    have tT := sT'.ag gc
    have tR := ICr_Pc sR' gc
    have t1 : St τ (z + 1) v := St_ag sI'.1 g2 (fun b h1 h2 q => by omega)
    have t87 : Sf τ (z + 87) := Sf_ag sI'.2.2.1 g2 (fun b h1 h2 q => by omega)
    obtain ⟨nx, sH⟩ := sI'.2.2.2
    have tH : HC τ z nx ct V := HC_ag sH g2 (fun b h1 h2 q => by omega)
    have tC : CsC G τ z (rX R) (rF R) N := ⟨(g2.I (by omega)).trans (hc' hv).1, fun j hj => by
      obtain ⟨c1, x, y, c2, c3⟩ := (hc' hv).2 j hj
      exact ⟨by rw [g2.r]; exact c1, x, y, (g2.I (by omega)).trans c2, (g2.I (by omega)).trans c3⟩⟩
    obtain ⟨S, eS, rS⟩ := t1
    have n11 : N ≤ 11 := by omega
    have n12 : N ≤ 12 := Nat.le_trans n11 (by decide)
    have bN := bN_ok n11 hb3
    have hrun := crun (X := rX R) (F := rF R) (N := N) n12 hok (N + 1) 0 B c v (Nat.zero_add _) hV.1 hb bN
    rcases hrun with ⟨w, hw, c1⟩ | ⟨q, w, hq, hw, c1⟩
    · have key : ∀ (Q : Int32 → mmT → Prop) (Xx : String → mmT → Prop), (∀ S', Rel S' w 4 16 → w_X10_runScript_l55 G z Q Xx 1 (nI (N + 1)) (CT τ (z + 1) S')) → w_X10_runScript_l55 G z Q Xx (N + 2) (nI 0) τ := fun Q Xx h => by
        have := c1 G z τ S Q Xx tT tC rS h
        rw [BT_self eS] at this
        exact this
      refine key _ _ (fun S' r' => ?_)
      have g3 : Ag z τ (CT τ (z + 1) S') (fun b => z + 1 ≤ b ∧ b < z + 1 + 43) := Ag_CT R0_1
      have g3c : Ag z τ (CT τ (z + 1) S') (Pc z) := g3.up (fun b hb => Or.inl (by omega))
      have uT := tT.ag g3c
      have uR := ICr_Pc tR g3c
      have u1 : St (CT τ (z + 1) S') (z + 1) w := St_CT r'
      have u44 : St (CT τ (z + 1) S') (z + 44) v := St_ag s44 g3 (fun b h1 h2 q => by omega)
      have u87 : Sf (CT τ (z + 1) S') (z + 87) := Sf_ag t87 g3 (fun b h1 h2 q => by omega)
      have uH : HC (CT τ (z + 1) S') z nx ct V := HC_ag tH g3 (fun b h1 h2 q => by omega)
      have u5 : mI (CT τ (z + 1) S') 195 (z + 519) = nI (N + 1) := (g3.I (by omega)).trans tC.1
      have kp3 := (kp1.tr gc.kp).tr g3.kp
      generalize CT τ (z + 1) S' = η at *
      refine ⟨uT.kz, z + 519, uT.z6, uT.t.1, ?_⟩
      rw [u5]
      refine ⟨fun _ => ⟨z + 173, uT.z5, uT.h, ?_⟩, fun e => absurd (nI_le (Nat.le_refl _) (by omega)) e⟩
      rw [uT.z2]
      refine t_remember uT uH u44 l (fun π g5 h5 => ?_)
      have g5c : Ag z η π (Pc z) := g5.up (fun b hb => Or.inr (by omega))
      have pT := uT.ag g5c
      have p5 : mI π 195 (z + 519) = nI (N + 1) := (g5.I (by omega)).trans u5
      have pI : ICv π z w (ctP ct) (vP ct V v) := ⟨St_ag u1 g5 (fun b h1 h2 q => by omega), (St_ag u44 g5 (fun b h1 h2 q => by omega)).f, Sf_ag u87 g5 (fun b h1 h2 q => by omega), _, h5⟩
      refine ⟨pT.kz, z + 519, pT.z6, pT.t.1, ?_⟩
      rw [p5]
      exact hD π (N + 1) w (by omega) (kp3.tr g5.kp) ⟨pT, pI, JV_push (B2 := B + 20000) (c2 := c + 12) hV (by omega) (by omega) (JB_mono hw (by omega) (by omega)), _, ICr_Pc uR g5c, hJn⟩
    · have key : ∀ (Q : Int32 → mmT → Prop) (Xx : String → mmT → Prop), (∀ S', Rel S' w 4 16 → cE G z Xx (nI q) (CT τ (z + 1) S')) → w_X10_runScript_l55 G z Q Xx (N + 2) (nI 0) τ := fun Q Xx h => by
        have := c1 G z τ S Q Xx tT tC rS h
        rw [BT_self eS] at this
        exact this
      refine key _ _ (fun S' r' => ?_)
      have g3 : Ag z τ (CT τ (z + 1) S') (fun b => z + 1 ≤ b ∧ b < z + 1 + 43) := Ag_CT R0_1
      have g3c : Ag z τ (CT τ (z + 1) S') (Pc z) := g3.up (fun b hb => Or.inl (by omega))
      have uT := tT.ag g3c
      have uR := ICr_Pc tR g3c
      have u1 : Sf (CT τ (z + 1) S') (z + 1) := (St_CT r').f
      have u44 : St (CT τ (z + 1) S') (z + 44) v := St_ag s44 g3 (fun b h1 h2 q => by omega)
      have u87 : Sf (CT τ (z + 1) S') (z + 87) := Sf_ag t87 g3 (fun b h1 h2 q => by omega)
      have uH : HC (CT τ (z + 1) S') z nx ct V := HC_ag tH g3 (fun b h1 h2 q => by omega)
      have kp3 := (kp1.tr gc.kp).tr g3.kp
      generalize CT τ (z + 1) S' = η at *
      refine ⟨uT.kz, z + 1, uT.z1, uT.s1.1, ?_⟩
      rw [uT.z2]
      refine w_copy (z := z) R0_1 uT.s1 uT.s2 (by omega) u1 u44 l (fun π g5 s1 => ?_)
      have g5c : Ag z η π (Pc z) := g5.up (fun b hb => Or.inl (by omega))
      have pT := uT.ag g5c
      have pI : ICv π z v ct V := ⟨s1, Sf_ag u44.f g5 (fun b h1 h2 q => by omega), Sf_ag u87 g5 (fun b h1 h2 q => by omega), _, HC_ag uH g5 (fun b h1 h2 q => by omega)⟩
      have gz : Ag z π (sI π 297 z (nI q)) (fun b => b = z) := Ag_sI
      exact ⟨pT.kz, Or.inr ⟨rfl, hF _ _ (by decide) ((kp3.tr g5.kp).tr gz.kp) ⟨pT.ag gz, ICv_ag pI gz (fun b hb q => by omega), JV_mono hV (by omega) (by omega), _, (ICr_e1 (ICr_Pc uR g5c)).2, hJn⟩⟩⟩
  · rw [if_neg hv]
    refine ⟨fun q => absurd rfl q, fun _ => ⟨z + 519, sT'.z6, sT'.t.1, ?_⟩⟩
    rw [e6']
    have gz : Ag z σ (sI σ 296 z (nI (stp (rX R) (rF R) (sS (rX R) (rF R) N)))) (fun b => b = z) := Ag_sI
    exact Or.inl ⟨rfl, hF _ _ (by decide) (kp1.tr gz.kp) ⟨sT'.ag gz, ICv_ag sI' gz (fun b hb q => by omega), JV_mono hV (by omega) (by omega), _, (ICr_e1 sR').1, hJn⟩⟩
/-- a character is typed -/
theorem l_type {Q : Int32 → mmT → Prop} (hO : Iv μ z B c v ct V) (hq : q < 65536) (hn : vp_nar .char (nI q) = nI q) (h : ∀ ρ (e : Int32), Kp z μ ρ → mK ρ = mK μ → mN ρ = mN μ → (∀ F b, z + 585 ≤ b → mI ρ F b = mI μ F b) → (∀ b i, z + 585 ≤ b → mA ρ b i = mA μ b i) → mR ρ = mR μ → Iv ρ z B c v ct V → Q e ρ) : w_L_type G μ (some z) (nI q) Q := by
  obtain ⟨hT, hI, hV, R, hR, hJ⟩ := hO
  unfold w_L_type
  refine ⟨z, rfl, hT.kz, t_type hq hn hT hR.2.1 hJ.2.2.1 (fun h1 h2 h3 ν g ht => h ν _ g.kp g.k g.n (fun F b hb => g.I (by omega)) (fun b i hb => g.A (by omega)) g.r ⟨hT.ag g, ICv_ag hI g (fun b hb q => by omega), hV, rTy R q, ⟨ICs_ag (R := rTy R q) hR.1 g (g.I (by omega)) (fun b hb q => by omega), ht, ICe_ag (R := rTy R q) hR.2.2.1 (g.I (by omega)) (g.I (by omega)), ICo_ag (R := rTy R q) hR.2.2.2 g (fun b hb q => by omega)⟩, JR_ty hJ h1 h2 h3⟩) (fun h1 h2 h3 => Or.inr ⟨rfl, h μ _ Kp_rf rfl rfl (fun _ _ _ => rfl) (fun _ _ _ => rfl) rfl ⟨hT, hI, hV, R, hR, hJ⟩⟩) (fun h0 => Or.inl ⟨rfl, h μ _ Kp_rf rfl rfl (fun _ _ _ => rfl) (fun _ _ _ => rfl) rfl ⟨hT, hI, hV, R, hR, hJ⟩⟩)⟩
end RUNC

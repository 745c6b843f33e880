/-! THE LAW: MEAN AND RATE -/
def sAt (v : Nat → Nat) : Nat := su (fun p => v (146 + 7 * p + 3)) (v 2)
section LAW41
variable {G : mgT} {μ ν ρ σ : mmT} {z a b c c2 m i n k q p F t L ct j o : Nat} {S : cT} {v : Nat → Nat} {V : Nat → Nat → Nat} {R : rT} {x : Int32} {B : Nat} {xs : Nat → Int32} {K : Option Nat → Option Nat → Option Nat → Option Nat → Int32 → Nat → mmT → Prop}
theorem su_le {f : Nat → Nat} {M : Nat} : ∀ n, (∀ k, k < n → f k ≤ M) → su f n ≤ M * n
  | 0, _ => Nat.zero_le _
  | n + 1, h => by
    have := su_le n (fun k hk => h k (by omega))
    have h2 := h n (by omega)
    show su f n + f n ≤ M * (n + 1)
    rw [Nat.mul_succ]
    omega
theorem sAt_le (h : J B 16 v) : sAt v ≤ 80 := by
  have l2 := h.1.1.1.2.2
  have := su_le (f := fun p => v (146 + 7 * p + 3)) (M := 5) (v 2) (fun k hk => (h.1.2.2.1 k hk).2.2.1)
  show su _ _ ≤ 80
  omega
theorem t_sum {Q : Int32 → Prop} (hs : SS μ a) (hr : Rel S v 4 16) (l : Lim v) (h : Q (nI (sAt v))) : w_X8_sumOfAttempts G (CT μ a S) a Q := by
  have l2 := l.1.2.2
  unfold w_X8_sumOfAttempts
  refine (lpE (W := fun n i => w_X8_sumOfAttempts_l4 G (CT μ a S) a Q n (nI (su (fun p => v (146 + 7 * p + 3)) i)) (nI i)) (N := v 2) ?_ (Nat.zero_le _)).imp fun n hn => hn
  intro n i hi ih
  show w_X8_sumOfAttempts_b4 G (CT μ a S) a Q _ _ (nI i)
  unfold w_X8_sumOfAttempts_b4
  rw [CT_I0, hr.1.2.2.1]
  refine ⟨hs.k0, pk_le (v 2) i (fun c => ?_) (fun hl => gm hs (by omega) (gmo hs (by omega) (rel_P hr l hl) ?_))⟩
  · have : i = v 2 := by omega
    rw [this]
    exact h
  · have hc := rel_P hr l hl
    have := ih hl
    rw [CT_I (by omega), (hr.2.2.2.2.1 i hl).1.2.2.2.1, nI_add, nI_add]
    exact this
theorem s_mean {Q : UInt64 → Prop} (hm : MS μ m) (l : Lim v) (hn : vf_n64 (FP.ddiv (FP.i2d (nI (sAt v))) (FP.i2d (nI (v 2))))) (h : Q (FP.ddiv (FP.i2d (nI (sAt v))) (FP.i2d (nI (v 2))))) : w_X11_mean G (VT μ m v) m Q := by
  have l2 := l.1.2.2
  unfold w_X11_mean
  refine (lpE (W := fun n i => w_X11_mean_l4 G (VT μ m v) m Q n (nI (su (fun p => v (146 + 7 * p + 3)) i)) (nI i)) (N := v 2) ?_ (Nat.zero_le _)).imp fun n hn => hn
  intro n i hi ih
  show w_X11_mean_b4 G (VT μ m v) m Q _ _ (nI i)
  unfold w_X11_mean_b4
  refine ⟨hm.1, rd_s hm (by omega) ?_⟩
  rw [cl (by omega), VT_A]
  refine pk_le (v 2) i (fun c => ?_) (fun hl => s_X11_of hm (by omega) ?_)
  · have : i = v 2 := by omega
    rw [this]
    exact ⟨vin_s hm (by omega), hn, h⟩
  · have := ih hl
    rw [nI_add, nI_add]
    exact this
theorem meanF {s n : Nat} (hs : s < 2 ^ 31) (h0 : 0 < n) (hn : n < 2 ^ 31) : vf_n64 (FP.ddiv (FP.i2d (nI s)) (FP.i2d (nI n))) ∧ FP.dcmp (FP.ddiv (FP.i2d (nI s)) (FP.i2d (nI n))) (FP.ddiv (FP.i2d (nI s)) (FP.i2d (nI n))) = some .eq ∧ (∀ (G : mgT) (μ : mmT) (Q : Int64 → Prop), Q (FP.ddiv (FP.i2d (nI s)) (FP.i2d (nI n))).toInt64 → w_X10_bitsOf G μ (FP.ddiv (FP.i2d (nI s)) (FP.i2d (nI n))) (nI 52) (nI 1023) Q) := by
  by_cases c : s = 0
  · subst c
    rw [ddiv_0 h0 hn]
    exact ⟨n64_0, dcmp_00, fun G μ Q h => t_bits0 h⟩
  · obtain ⟨E, T, e, h1, h2, h3⟩ := ddiv_p (a := s) (b := n) (by omega) hs h0 hn
    rw [e]
    exact ⟨n64 h2 h3, cmp_s h1 h2 h3, fun G μ Q h => t_bits64 h1 h2 h3 h⟩
theorem rateF {s n : Nat} (hs : s < 2 ^ 31) (h0 : 0 < n) (hn : n < 2 ^ 31) : vf_n32 (FP.fdiv (FP.i2f (nI s)) (FP.i2f (nI n))) ∧ FP.fcmp (FP.fdiv (FP.i2f (nI s)) (FP.i2f (nI n))) (FP.fdiv (FP.i2f (nI s)) (FP.i2f (nI n))) = some .eq ∧ vf_n64 (FP.f2d (FP.fdiv (FP.i2f (nI s)) (FP.i2f (nI n)))) ∧ FP.dcmp (FP.f2d (FP.fdiv (FP.i2f (nI s)) (FP.i2f (nI n)))) (FP.f2d (FP.fdiv (FP.i2f (nI s)) (FP.i2f (nI n)))) = some .eq ∧ (∀ (G : mgT) (μ : mmT) (Q : Int64 → Prop), (∀ u : Int64, u.toInt32 = (FP.fdiv (FP.i2f (nI s)) (FP.i2f (nI n))).toInt32 → Q u) → w_X10_bitsOf G μ (FP.f2d (FP.fdiv (FP.i2f (nI s)) (FP.i2f (nI n)))) (nI 23) (nI 127) Q) := by
  by_cases c : s = 0
  · subst c
    rw [fdiv_0 h0 hn, f2d_0]
    exact ⟨n32_0, fcmp_00, n64_0, dcmp_00, fun G μ Q h => t_bits0 (h _ (by decide))⟩
  · obtain ⟨E, T, e, h1, h2, h3⟩ := fdiv_p (a := s) (b := n) (by omega) hs h0 hn
    rw [e, f2d_p h1 h2 h3]
    exact ⟨n32 h2 h3, fcmp_s h1 h2 h3, n64 (by omega) (by omega), cmp_s (by omega) (by omega) (by omega), fun G μ Q h => t_bits32 h1 h2 h3 (h _ (lN_i _))⟩
theorem cmpG4 {K : mmT → Prop} {k : Int32} {Z : Nat → Prop} (hT : ST ρ z) (h3 : mI ρ 320 (z + 584) = k) (hK : K ρ) (hZ : k = 0 → Z (z + 594)) :
    mK ρ (z + 584) = 11 ∧ w_X11_thrown G ρ (z + 584) (fun u21 => (u21 = k → (¬ k = 0 → K ρ) ∧ (k = 0 → ∃ a24, some (z + 594) = some a24 ∧ (mK ρ a24 = 36 ∧ (vp_in (nI 0) (mN ρ a24) ∧ Z a24)))) ∧ (¬ u21 = k → False)) :=
  ⟨hT.km, hT.km, fun _ => ⟨fun _ => hK, fun k0 => ⟨z + 594, rfl, hT.l.2.2.1, dvp hT, hZ k0⟩⟩, fun q => q h3⟩
/-- the class's mean, its rate -/
theorem t_meanOf {Q : UInt64 → Prop} (hT : ST μ z) (hs : St μ (z + 1) v) (h : J B 16 v) (h0 : 0 < v 2) (hq : Q (FP.ddiv (FP.i2d (nI (sAt v))) (FP.i2d (nI (v 2))))) : w_X10_meanOfAttempts G μ z Q := by
  have l2 := h.1.1.1.2.2
  have s8 := sAt_le h
  obtain ⟨S, e1, r1⟩ := hs
  have key : w_X10_meanOfAttempts G (CT μ (z + 1) S) z Q := by
    unfold w_X10_meanOfAttempts
    refine ⟨hT.kz, _, hT.z1, hT.s1.1, t_sum hT.s1 r1 h.1.1 ?_⟩
    rw [CT_I0, r1.1.2.2.1]
    exact ⟨(meanF (by omega) h0 (by omega)).1, hq⟩
  rw [BT_self e1] at key
  exact key
theorem st_230 (hs : St μ (z + 1) v) : mI μ 230 (z + 1) = nI (v 2) := hs.elim (fun S q => (q.1.1 230 0 (by decide)).trans q.2.1.2.2.1)
theorem st_257 (hs : St μ (z + 1) v) : mI μ 257 (z + 1 + 4) = nI (v 6) ∧ mI μ 262 (z + 1 + 4) = nI (v 10) := hs.elim (fun S q => ⟨(q.1.1 257 4 (by decide)).trans q.2.2.1.2.1, (q.1.1 262 4 (by decide)).trans q.2.2.1.2.2.2.2.2.2⟩)
theorem t_rate {Q : UInt32 → Prop} (hT : ST μ z) (hs : St μ (z + 1) v) (h6 : v 6 < 2 ^ 31) (h0 : 0 < v 10) (h1 : v 10 < 2 ^ 31) (hq : Q (FP.fdiv (FP.i2f (nI (v 6))) (FP.i2f (nI (v 10))))) : w_X10_rateOfDeliveries G μ z Q := by
  obtain ⟨e6, e10⟩ := st_257 hs
  unfold w_X10_rateOfDeliveries
  refine ⟨hT.kz, _, hT.z1, hT.s1.1, _, hT.s1.2.1.2.2.2, hT.s1.2.2.1.2.2.2, ?_⟩
  rw [e6, e10]
  exact ⟨(rateF h6 h0 h1).1, hq⟩
theorem s_rate {Q : UInt32 → Prop} (hm : MS μ m) (h6 : v 6 < 2 ^ 31) (h0 : 0 < v 10) (h1 : v 10 < 2 ^ 31) (hq : Q (FP.fdiv (FP.i2f (nI (v 6))) (FP.i2f (nI (v 10))))) : w_X11_rate G (VT μ m v) m Q := by
  unfold w_X11_rate
  refine ⟨hm.1, rd_s hm (by omega) ⟨vin_s hm (by omega), ?_⟩⟩
  rw [cl (by omega), cl (by omega), VT_A, VT_A]
  exact ⟨(rateF h6 h0 h1).1, hq⟩
theorem l_41 (hk : Tn L K z i t B c) (hO : Ok μ z B c) : w_L_law_b2119 G o L xs K (some z) (some (z + 584)) (some (z + 593)) (some (z + 594)) (nI i) t μ := by
  obtain ⟨ht, v1, v2, hb, hc, kk⟩ := hk
  obtain ⟨hT, v, ct, V, R, ⟨hI, hR⟩, ⟨hM, hMr⟩, hV, hJ⟩ := hO
  have hj := hV.1.1
  have l := hj.1.1
  have l2 := l.1.2.2
  have s8 := sAt_le hj
  have kk2 : Kk (fun ρ => t ≤ 512 ∧ (t ≤ 512 ∧ K (some z) (some (z + 584)) (some (z + 593)) (some (z + 594)) (nI i + nI 3) (t + 1) ρ)) z (B + 20000) (c + 12) := fun ρ h => ⟨ht, ht, kk ρ h⟩
  have e0 : ∀ k, mI (sI (VT μ (z + 584) v) 320 (z + 584) (nI k)) 320 (z + 584) = nI k := fun k => sI_e
  unfold w_L_law_b2119 w_L_law_b2181 w_L_law_b2179 w_L_law_b2766 w_L_meanAttempts w_X10_meanAttempts
  refine ⟨ht, z, rfl, hT.kz, hT.kz, _, hT.z1, hT.s1.1, ?_⟩
  rw [st_230 hI.1]
  refine ⟨fun cc => t_meanOf hT hI.1 hj (by have : v 2 ≠ 0 := fun e => cc (by rw [e]; rfl); omega) ⟨z + 594, rfl, hT.l.2.2.1, dvp hT, z + 584, rfl, hT.km, ?_⟩, fun cc => ⟨rfl, z + 584, rfl, hT.km, ?_⟩⟩
  · have h0 : 0 < v 2 := by
      have : v 2 ≠ 0 := fun e => cc (by rw [e]; rfl)
      omega
    obtain ⟨f1, f2, -⟩ := meanF (s := sAt v) (n := v 2) (by omega) h0 (by omega)
    have eD : mD (sD μ (z + 594) (nI 0).toNatClampNeg (FP.ddiv (FP.i2d (nI (sAt v))) (FP.i2d (nI (v 2))))) (z + 594) (nI 0).toNatClampNeg = FP.ddiv (FP.i2d (nI (sAt v))) (FP.i2d (nI (v 2))) := sD_e
    have smn : ∀ (σ : mmT) (Q : UInt64 → Prop), MS σ (z + 584) → Q (FP.ddiv (FP.i2d (nI (sAt v))) (FP.i2d (nI (v 2)))) → w_X11_mean G (VT σ (z + 584) v) (z + 584) Q := fun σ Q a1 a2 => s_mean a1 l f1 a2
    generalize FP.ddiv (FP.i2d (nI (sAt v))) (FP.i2d (nI (v 2))) = X at *
    have q1 : ST (sD μ (z + 594) (nI 0).toNatClampNeg X) z := hT
    have q2 : ICv (sD μ (z + 594) (nI 0).toNatClampNeg X) z v ct V := hI
    have q3 : ICr (sD μ (z + 594) (nI 0).toNatClampNeg X) z R := hR
    have q4 : IMv (sD μ (z + 594) (nI 0).toNatClampNeg X) z v ct V := hM
    have q5 : IMr (sD μ (z + 594) (nI 0).toNatClampNeg X) z R := hMr
    generalize sD μ (z + 594) (nI 0).toNatClampNeg X = σ at *
    have hO := ok_q q1 q2 q3 q4 q5 hV hJ (k := nI 0)
    refine wV (W := fun μ => w_X11_meanAttempts G μ (z + 584) _) (m := z + 584) q4.1 ?_
    unfold w_X11_meanAttempts w_X11_meanAttempts_b15 w_X11_meanAttempts_b33
    refine ⟨q1.km, rd_s q1.ms (by omega) ?_⟩
    rw [cl (by omega), VT_A]
    refine ⟨fun _ => ⟨z + 584, rfl, q1.km, q1.km, fun _ => ?_, fun d => absurd (by rw [sI_e]; decide) d⟩, fun d => absurd d cc⟩
    rw [VT_sI]
    refine smn _ _ (MS_sI q1.ms) (cmpG4 (K := (fun ρ => t ≤ 512 ∧ (t ≤ 512 ∧ K (some z) (some (z + 584)) (some (z + 593)) (some (z + 594)) (nI i + nI 3) (t + 1) ρ))) hO.1 (VT_I.trans sI_e) (kk2 _ hO) (fun _ => ?_))
    have e2 : mD (VT (sI σ 320 (z + 584) (nI 0)) (z + 584) v) (z + 594) (nI 0).toNatClampNeg = X := eD
    rw [e2, f2]
    exact ⟨fun _ => kk2 _ hO, fun d => absurd rfl d⟩
  · have hO := ok_q hT hI hR hM hMr hV hJ (k := nI 1)
    refine wV (W := fun μ => w_X11_meanAttempts G μ (z + 584) _) (m := z + 584) hM.1 ?_
    unfold w_X11_meanAttempts w_X11_meanAttempts_b15 w_X11_meanAttempts_b33
    refine ⟨hT.km, rd_s hT.ms (by omega) ?_⟩
    rw [cl (by omega), VT_A]
    refine ⟨fun d => absurd cc d, fun _ => ⟨z + 584, rfl, hT.km, hT.km, fun d => absurd d (by rw [sI_e]; decide), fun _ => ?_⟩⟩
    rw [VT_sI]
    exact cmpG4 (K := (fun ρ => t ≤ 512 ∧ (t ≤ 512 ∧ K (some z) (some (z + 584)) (some (z + 593)) (some (z + 594)) (nI i + nI 3) (t + 1) ρ))) hO.1 (VT_I.trans sI_e) (kk2 _ hO) (fun e => absurd e (by decide))
theorem l_42 (hk : Tn L K z i t B c) (hO : Ok μ z B c) : w_L_law_b2184 G o L xs K (some z) (some (z + 584)) (some (z + 593)) (some (z + 594)) (nI i) t μ := by
  obtain ⟨ht, v1, v2, hb, hc, kk⟩ := hk
  obtain ⟨hT, v, ct, V, R, ⟨hI, hR⟩, ⟨hM, hMr⟩, hV, hJ⟩ := hO
  have hj := hV.1.1
  have l := hj.1.1
  have l2 := l.1.2.2
  have s8 := sAt_le hj
  have kk2 : Kk (fun ρ => t ≤ 512 ∧ (t ≤ 512 ∧ K (some z) (some (z + 584)) (some (z + 593)) (some (z + 594)) (nI i + nI 3) (t + 1) ρ)) z (B + 20000) (c + 12) := fun ρ h => ⟨ht, ht, kk ρ h⟩
  unfold w_L_law_b2184 w_L_law_b2224 w_L_law_b2766 w_L_meanAttemptsBits w_X10_meanAttemptsBits
  refine ⟨ht, z, rfl, hT.kz, hT.kz, _, hT.z1, hT.s1.1, ?_⟩
  rw [st_230 hI.1]
  have hpos : ¬ nI (v 2) = 0 → 0 < v 2 := fun cc => by
    have : v 2 ≠ 0 := fun e => cc (by rw [e]; rfl)
    omega
  refine ⟨fun cc => t_meanOf hT hI.1 hj (hpos cc) ((meanF (s := sAt v) (n := v 2) (by omega) (hpos cc) (by omega)).2.2 G μ _ ⟨z + 593, rfl, hT.l.1, lvp hT, z + 584, rfl, hT.km, ?_⟩), fun cc => ⟨rfl, z + 584, rfl, hT.km, ?_⟩⟩
  · obtain ⟨f1, f2, -⟩ := meanF (s := sAt v) (n := v 2) (by omega) (hpos cc) (by omega)
    have smn : ∀ (σ : mmT) (Q : UInt64 → Prop), MS σ (z + 584) → Q (FP.ddiv (FP.i2d (nI (sAt v))) (FP.i2d (nI (v 2)))) → w_X11_mean G (VT σ (z + 584) v) (z + 584) Q := fun σ Q a1 a2 => s_mean a1 l f1 a2
    generalize FP.ddiv (FP.i2d (nI (sAt v))) (FP.i2d (nI (v 2))) = X at *
    have eL : mL (sL μ (z + 593) (nI 0).toNatClampNeg X.toInt64) (z + 593) 0 = X.toInt64 := sL_e0
    have q1 : ST (sL μ (z + 593) (nI 0).toNatClampNeg X.toInt64) z := hT
    have q2 : ICv (sL μ (z + 593) (nI 0).toNatClampNeg X.toInt64) z v ct V := hI
    have q3 : ICr (sL μ (z + 593) (nI 0).toNatClampNeg X.toInt64) z R := hR
    have q4 : IMv (sL μ (z + 593) (nI 0).toNatClampNeg X.toInt64) z v ct V := hM
    have q5 : IMr (sL μ (z + 593) (nI 0).toNatClampNeg X.toInt64) z R := hMr
    generalize sL μ (z + 593) (nI 0).toNatClampNeg X.toInt64 = σ at *
    have hO := ok_q q1 q2 q3 q4 q5 hV hJ (k := nI 0)
    refine wV (W := fun μ => w_X11_meanAttemptsBits G μ (z + 584) _) (m := z + 584) q4.1 ?_
    unfold w_X11_meanAttemptsBits w_X11_meanAttemptsBits_b15 w_X11_meanAttemptsBits_b36 w_Jxe99ae_doubleToLongBits_ccdee w_Jxe99ae_isNaN_b9ae7 w_Jxe99ae_isNaN_b9ae7_b11
    refine ⟨q1.km, rd_s q1.ms (by omega) ?_⟩
    rw [cl (by omega), VT_A]
    refine ⟨fun _ => ⟨z + 584, rfl, q1.km, q1.km, fun _ => ?_, fun d => absurd (by rw [sI_e]; decide) d⟩, fun d => absurd d cc⟩
    rw [VT_sI]
    refine smn _ _ (MS_sI q1.ms) ?_
    rw [f2]
    exact ⟨fun _ => ⟨Or.inl rfl, rfl, cmp_ok (K := (fun ρ => t ≤ 512 ∧ (t ≤ 512 ∧ K (some z) (some (z + 584)) (some (z + 593)) (some (z + 594)) (nI i + nI 3) (t + 1) ρ))) hO.1 (VT_I.trans sI_e) (fun _ => eL) (kk2 _ hO)⟩, fun d => absurd rfl d⟩
  · have hO := ok_q hT hI hR hM hMr hV hJ (k := nI 1)
    refine wV (W := fun μ => w_X11_meanAttemptsBits G μ (z + 584) _) (m := z + 584) hM.1 ?_
    unfold w_X11_meanAttemptsBits w_X11_meanAttemptsBits_b15 w_X11_meanAttemptsBits_b36
    refine ⟨hT.km, rd_s hT.ms (by omega) ?_⟩
    rw [cl (by omega), VT_A]
    refine ⟨fun d => absurd cc d, fun _ => ⟨z + 584, rfl, hT.km, hT.km, fun d => absurd d (by rw [sI_e]; decide), fun _ => ?_⟩⟩
    rw [VT_sI]
    exact cmp_ok (K := (fun ρ => t ≤ 512 ∧ (t ≤ 512 ∧ K (some z) (some (z + 584)) (some (z + 593)) (some (z + 594)) (nI i + nI 3) (t + 1) ρ))) hO.1 (VT_I.trans sI_e) (fun e => absurd e (by decide)) (kk2 _ hO)
theorem l_43 (hk : Tn L K z i t B c) (hO : Ok μ z B c) : w_L_law_b2227 G o L xs K (some z) (some (z + 584)) (some (z + 593)) (some (z + 594)) (nI i) t μ := by
  obtain ⟨ht, v1, v2, hb, hc, kk⟩ := hk
  obtain ⟨hT, v, ct, V, R, ⟨hI, hR⟩, ⟨hM, hMr⟩, hV, hJ⟩ := hO
  have hj := hV.1.1
  have b6 := hj.2.2 6
  have b10 := hj.2.2 10
  have kk2 : Kk (fun ρ => t ≤ 512 ∧ (t ≤ 512 ∧ K (some z) (some (z + 584)) (some (z + 593)) (some (z + 594)) (nI i + nI 3) (t + 1) ρ)) z (B + 20000) (c + 12) := fun ρ h => ⟨ht, ht, kk ρ h⟩
  unfold w_L_law_b2227 w_L_law_b2290 w_L_law_b2288 w_L_law_b2766 w_L_deliveryRate w_X10_deliveryRate
  refine ⟨ht, z, rfl, hT.kz, hT.kz, _, hT.z1, hT.s1.1, _, hT.s1.2.1.2.2.2, hT.s1.2.2.1.2.2.2, ?_⟩
  rw [(st_257 hI.1).2]
  have hpos : ¬ nI (v 10) = 0 → 0 < v 10 := fun cc => by
    have : v 10 ≠ 0 := fun e => cc (by rw [e]; rfl)
    omega
  refine ⟨fun cc => t_rate hT hI.1 (by omega) (hpos cc) (by omega) ⟨(rateF (s := v 6) (n := v 10) (by omega) (hpos cc) (by omega)).2.2.1, z + 594, rfl, hT.l.2.2.1, dvp hT, z + 584, rfl, hT.km, ?_⟩, fun cc => ⟨rfl, z + 584, rfl, hT.km, ?_⟩⟩
  · obtain ⟨f1, f2, f3, f4, -⟩ := rateF (s := v 6) (n := v 10) (by omega) (hpos cc) (by omega)
    have smn : ∀ (σ : mmT) (Q : UInt32 → Prop), MS σ (z + 584) → Q (FP.fdiv (FP.i2f (nI (v 6))) (FP.i2f (nI (v 10)))) → w_X11_rate G (VT σ (z + 584) v) (z + 584) Q := fun σ Q a1 a2 => s_rate a1 (by omega) (hpos cc) (by omega) a2
    generalize FP.fdiv (FP.i2f (nI (v 6))) (FP.i2f (nI (v 10))) = X at *
    have eD : mD (sD μ (z + 594) (nI 0).toNatClampNeg (FP.f2d X)) (z + 594) (nI 0).toNatClampNeg = FP.f2d X := sD_e
    have q1 : ST (sD μ (z + 594) (nI 0).toNatClampNeg (FP.f2d X)) z := hT
    have q2 : ICv (sD μ (z + 594) (nI 0).toNatClampNeg (FP.f2d X)) z v ct V := hI
    have q3 : ICr (sD μ (z + 594) (nI 0).toNatClampNeg (FP.f2d X)) z R := hR
    have q4 : IMv (sD μ (z + 594) (nI 0).toNatClampNeg (FP.f2d X)) z v ct V := hM
    have q5 : IMr (sD μ (z + 594) (nI 0).toNatClampNeg (FP.f2d X)) z R := hMr
    generalize sD μ (z + 594) (nI 0).toNatClampNeg (FP.f2d X) = σ at *
    have hO := ok_q q1 q2 q3 q4 q5 hV hJ (k := nI 0)
    refine wV (W := fun μ => w_X11_deliveryRate G μ (z + 584) _) (m := z + 584) q4.1 ?_
    unfold w_X11_deliveryRate w_X11_deliveryRate_b16 w_X11_deliveryRate_b34
    refine ⟨q1.km, rd_s q1.ms (by omega) ?_⟩
    rw [cl (by omega), VT_A]
    refine ⟨fun _ => ⟨z + 584, rfl, q1.km, q1.km, fun _ => ?_, fun d => absurd (by rw [sI_e]; decide) d⟩, fun d => absurd d cc⟩
    rw [VT_sI]
    refine smn _ _ (MS_sI q1.ms) (cmpG4 (K := (fun ρ => t ≤ 512 ∧ (t ≤ 512 ∧ K (some z) (some (z + 584)) (some (z + 593)) (some (z + 594)) (nI i + nI 3) (t + 1) ρ))) hO.1 (VT_I.trans sI_e) (kk2 _ hO) (fun _ => ⟨f3, ?_⟩))
    have e2 : mD (VT (sI σ 320 (z + 584) (nI 0)) (z + 584) v) (z + 594) (nI 0).toNatClampNeg = FP.f2d X := eD
    rw [e2, f4]
    exact ⟨fun _ => kk2 _ hO, fun d => absurd rfl d⟩
  · have hO := ok_q hT hI hR hM hMr hV hJ (k := nI 1)
    refine wV (W := fun μ => w_X11_deliveryRate G μ (z + 584) _) (m := z + 584) hM.1 ?_
    unfold w_X11_deliveryRate w_X11_deliveryRate_b16 w_X11_deliveryRate_b34
    refine ⟨hT.km, rd_s hT.ms (by omega) ?_⟩
    rw [cl (by omega), VT_A]
    refine ⟨fun d => absurd cc d, fun _ => ⟨z + 584, rfl, hT.km, hT.km, fun d => absurd d (by rw [sI_e]; decide), fun _ => ?_⟩⟩
    rw [VT_sI]
    exact cmpG4 (K := (fun ρ => t ≤ 512 ∧ (t ≤ 512 ∧ K (some z) (some (z + 584)) (some (z + 593)) (some (z + 594)) (nI i + nI 3) (t + 1) ρ))) hO.1 (VT_I.trans sI_e) (kk2 _ hO) (fun e => absurd e (by decide))
theorem l_44 (hk : Tn L K z i t B c) (hO : Ok μ z B c) : w_L_law_b2293 G o L xs K (some z) (some (z + 584)) (some (z + 593)) (some (z + 594)) (nI i) t μ := by
  obtain ⟨ht, v1, v2, hb, hc, kk⟩ := hk
  obtain ⟨hT, v, ct, V, R, ⟨hI, hR⟩, ⟨hM, hMr⟩, hV, hJ⟩ := hO
  have hj := hV.1.1
  have b6 := hj.2.2 6
  have b10 := hj.2.2 10
  have kk2 : Kk (fun ρ => t ≤ 512 ∧ (t ≤ 512 ∧ K (some z) (some (z + 584)) (some (z + 593)) (some (z + 594)) (nI i + nI 3) (t + 1) ρ)) z (B + 20000) (c + 12) := fun ρ h => ⟨ht, ht, kk ρ h⟩
  unfold w_L_law_b2293 w_L_law_b2334 w_L_law_b2766 w_L_deliveryRateBits w_X10_deliveryRateBits
  refine ⟨ht, z, rfl, hT.kz, hT.kz, _, hT.z1, hT.s1.1, _, hT.s1.2.1.2.2.2, hT.s1.2.2.1.2.2.2, ?_⟩
  rw [(st_257 hI.1).2]
  have hpos : ¬ nI (v 10) = 0 → 0 < v 10 := fun cc => by
    have : v 10 ≠ 0 := fun e => cc (by rw [e]; rfl)
    omega
  refine ⟨fun cc => t_rate hT hI.1 (by omega) (hpos cc) (by omega) ⟨(rateF (s := v 6) (n := v 10) (by omega) (hpos cc) (by omega)).2.2.1, (rateF (s := v 6) (n := v 10) (by omega) (hpos cc) (by omega)).2.2.2.2 G μ _ (fun u hu => ⟨z + 593, rfl, hT.l.1, lvp hT, z + 584, rfl, hT.km, ?_⟩)⟩, fun cc => ⟨rfl, z + 584, rfl, hT.km, ?_⟩⟩
  · obtain ⟨f1, f2, f3, f4, -⟩ := rateF (s := v 6) (n := v 10) (by omega) (hpos cc) (by omega)
    have smn : ∀ (σ : mmT) (Q : UInt32 → Prop), MS σ (z + 584) → Q (FP.fdiv (FP.i2f (nI (v 6))) (FP.i2f (nI (v 10)))) → w_X11_rate G (VT σ (z + 584) v) (z + 584) Q := fun σ Q a1 a2 => s_rate a1 (by omega) (hpos cc) (by omega) a2
    generalize FP.fdiv (FP.i2f (nI (v 6))) (FP.i2f (nI (v 10))) = X at *
    rw [hu]
    have eL : mL (sL μ (z + 593) (nI 0).toNatClampNeg X.toInt32.toInt64) (z + 593) 0 = X.toInt32.toInt64 := sL_e0
    have q1 : ST (sL μ (z + 593) (nI 0).toNatClampNeg X.toInt32.toInt64) z := hT
    have q2 : ICv (sL μ (z + 593) (nI 0).toNatClampNeg X.toInt32.toInt64) z v ct V := hI
    have q3 : ICr (sL μ (z + 593) (nI 0).toNatClampNeg X.toInt32.toInt64) z R := hR
    have q4 : IMv (sL μ (z + 593) (nI 0).toNatClampNeg X.toInt32.toInt64) z v ct V := hM
    have q5 : IMr (sL μ (z + 593) (nI 0).toNatClampNeg X.toInt32.toInt64) z R := hMr
    generalize sL μ (z + 593) (nI 0).toNatClampNeg X.toInt32.toInt64 = σ at *
    have hO := ok_q q1 q2 q3 q4 q5 hV hJ (k := nI 0)
    refine wV (W := fun μ => w_X11_deliveryRateBits G μ (z + 584) _) (m := z + 584) q4.1 ?_
    unfold w_X11_deliveryRateBits w_X11_deliveryRateBits_b16 w_X11_deliveryRateBits_b37 w_Jxf58ca_floatToIntBits_5c35a w_Jxf58ca_isNaN_12338 w_Jxf58ca_isNaN_12338_b11
    refine ⟨q1.km, rd_s q1.ms (by omega) ?_⟩
    rw [cl (by omega), VT_A]
    refine ⟨fun _ => ⟨z + 584, rfl, q1.km, q1.km, fun _ => ?_, fun d => absurd (by rw [sI_e]; decide) d⟩, fun d => absurd d cc⟩
    rw [VT_sI]
    refine smn _ _ (MS_sI q1.ms) ?_
    rw [f2]
    exact ⟨fun _ => ⟨Or.inl rfl, rfl, cmp_ok (K := (fun ρ => t ≤ 512 ∧ (t ≤ 512 ∧ K (some z) (some (z + 584)) (some (z + 593)) (some (z + 594)) (nI i + nI 3) (t + 1) ρ))) hO.1 (VT_I.trans sI_e) (fun _ => eL) (kk2 _ hO)⟩, fun d => absurd rfl d⟩
  · have hO := ok_q hT hI hR hM hMr hV hJ (k := nI 1)
    refine wV (W := fun μ => w_X11_deliveryRateBits G μ (z + 584) _) (m := z + 584) hM.1 ?_
    unfold w_X11_deliveryRateBits w_X11_deliveryRateBits_b16 w_X11_deliveryRateBits_b37
    refine ⟨hT.km, rd_s hT.ms (by omega) ?_⟩
    rw [cl (by omega), VT_A]
    refine ⟨fun d => absurd cc d, fun _ => ⟨z + 584, rfl, hT.km, hT.km, fun d => absurd d (by rw [sI_e]; decide), fun _ => ?_⟩⟩
    rw [VT_sI]
    exact cmp_ok (K := (fun ρ => t ≤ 512 ∧ (t ≤ 512 ∧ K (some z) (some (z + 584)) (some (z + 593)) (some (z + 594)) (nI i + nI 3) (t + 1) ρ))) hO.1 (VT_I.trans sI_e) (fun e => absurd e (by decide)) (kk2 _ hO)
end LAW41

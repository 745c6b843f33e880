/-! A TEXT IS READ OFF, TYPED AND RUN -/
section RUNS
variable {G : mgT} {μ ν ρ σ : mmT} {z a b c m i j k n o s e zz ct : Nat} {P P2 : Nat → Prop} {x y : Int32} {B : Nat} {v w : Nat → Nat} {V : Nat → Nat → Nat}
theorem Fh.lt (h : Fh μ zz) (hk : mK μ a = n) (hn : n ≠ 0) : a < zz := h a (by omega)
theorem min_n (h : n < 16) : (if nI n - nI 0 < nI 16 - nI 0 then nI n - nI 0 else nI 16 - nI 0) = nI n := by
  rw [pk_sub (Nat.zero_le n), pk_sub (Nat.zero_le 16)]
  exact if_pos ((nI_ltI (by omega) (by decide)).mpr h)
/-- the builder's characters are copied -/
theorem b_cpy {Q : Option Nat → mmT → Prop} (hB : Bl μ o n) (hz : mK μ s = 11) (hs : s < zz ∧ o + 1 < s) (hf : ∀ q, Fh μ q → s < q) (h : ∀ ν a, Fp (fun b => s < b) μ ν → s < a → mK ν a = 32 ∧ mN ν a = n → (∀ i, i < n → Tc (mA ν a i)) → Q (some a) ν) : w_J7_copyOfRange_39247 G μ (some (o + 1)) (nI 0) (nI n) Q := by
  have n16 := hB.2.1.2.2
  have hK := hB.1.2.2.1
  have hN := hB.1.2.2.2
  unfold w_J7_copyOfRange_39247
  refine ⟨fun e => absurd rfl e, fun _ => ⟨_, rfl, hK, fun e => ?_, fun e => ?_⟩⟩
  · rw [hN] at e
    have en : n = 16 := nI_inj (by omega) (by decide) e
    refine ⟨fun i hi => ?_, by omega, fun z1 f1 => ?_⟩
    · rw [hN] at hi
      exact (hB.2.2 i (by omega)).fit
    · have sz := hf z1 f1
      have k1 : mK (nB μ z1 (o + 1)) z1 = 32 := (show mK (nB μ z1 (o + 1)) z1 = mK μ (o + 1) from if_pos rfl).trans hK
      have n1 : mN (nB μ z1 (o + 1)) z1 = 16 := (show mN (nB μ z1 (o + 1)) z1 = mN μ (o + 1) from if_pos rfl).trans hN
      refine ⟨k1, h _ _ (Fp_nB.up (fun b q => by omega)) sz ⟨k1, n1.trans en.symm⟩ (fun i hi => ?_)⟩
      have e2 : mA (nB μ z1 (o + 1)) z1 i = mA μ (o + 1) i := if_pos rfl
      rw [e2]
      exact hB.2.2 i hi
  · have nn : n < 16 := by
      have : n ≠ 16 := fun q => e (by rw [hN, q])
      omega
    unfold w_J7_copyOfRange_39247_b10 w_J7_copyOfRangeByte_39247 w_J7_checkLength_df160
    refine ⟨nI_le (Nat.zero_le _) (by omega), fun z1 f1 => ?_⟩
    have sz := hf z1 f1
    have c0 : (nI n - nI 0).toNatClampNeg = n := by rw [pk_sub (Nat.zero_le n)]; exact cl (by omega)
    rw [c0]
    have kz : mK (nA μ z1 0 n) z1 = 32 := nA_Ke
    have nz : mN (nA μ z1 0 n) z1 = n := nA_Ne
    have ko : mK (nA μ z1 0 n) (o + 1) = 32 := (nA_K (by omega)).trans hK
    have no : mN (nA μ z1 0 n) (o + 1) = 16 := (nA_N (by omega)).trans hN
    have ao : ∀ i, mA (nA μ z1 0 n) (o + 1) i = mA μ (o + 1) i := fun i => nA_A (by omega)
    have f0 : Fp (fun b => b = z1) μ (nA μ z1 0 n) := Fp_nA
    generalize nA μ z1 0 n = μ2 at *
    refine ⟨by rw [pk_sub (Nat.zero_le n)]; exact nI_nneg (by omega), n16, _, rfl, ko, kz, by decide, ?_⟩
    rw [no, min_n nn, nz, cl (n := n) (by omega), show (nI 0).toNatClampNeg = 0 from rfl]
    refine ⟨nI_nneg (by omega), by omega, by omega, fun i hi => ?_, h _ _ ((f0.tr Fp_sX).up (fun b q => by omega)) sz ⟨kz, nz⟩ (fun i hi => ?_)⟩
    · rw [Nat.zero_add, ao]
      exact (hB.2.2 i hi).fit
    · rw [sX_A, if_pos ⟨Nat.zero_le _, by omega⟩]
      show Tc (mA μ2 (o + 1) (0 + (i - 0)))
      rw [Nat.zero_add, Nat.sub_zero, ao]
      exact hB.2.2 i hi
/-- a builder's text -/
theorem b_toS {Q : Option Nat → mmT → Prop} {lo : Nat} (hB : Bl μ o n) (hlo : ∀ zz, Fh μ zz → lo ≤ zz) (h : ∀ ν s a, lo ≤ s → lo ≤ a → o + 1 < s → o + 1 < a → Fp (fun b => lo ≤ b ∧ o + 1 < b) μ ν → Sg ν s a n → Q (some s) ν) : w_J4_toString_0e30d G μ o Q := by
  unfold w_J4_toString_0e30d
  intro zz fz
  have lz := hlo zz fz
  have oz : o + 1 < zz := Fh.lt fz hB.1.2.2.1 (by decide)
  have k0 : mK (nO μ zz 10) zz = 11 := nO_Ke
  have f0 : Fp (fun b => b = zz) μ (nO μ zz 10) := Fp_nO
  refine ⟨k0, ?_⟩
  unfold w_J0_init_81219 w_J0_init_db425 w_J5_getValue_6d5f1 w_J4_length_8abf5 w_J5_length_8abf5 w_J5_isLatin1_aae02
  generalize nO μ zz 10 = μ0 at *
  have hB0 : Bl μ0 o n := hB.fp f0 (by omega) (by omega)
  have k1 := hB0.1.1
  refine ⟨k0, _, rfl, k1, k1, k1, k1, by decide, k1, hB0.2.1.1, by decide, k0, ?_⟩
  rw [hB0.1.2.1, hB0.2.1.2.1]
  have f1 : Fp (fun b => b = zz) μ0 (sI μ0 321 zz (nI 0)) := Fp_sI
  have k2 : mK (sI μ0 321 zz (nI 0)) zz = 11 := k0
  have i2 : mI (sI μ0 321 zz (nI 0)) 321 zz = 0 := sI_e
  generalize sI μ0 321 zz (nI 0) = μ1 at *
  have hB1 : Bl μ1 o n := hB0.fp f1 (by omega) (by omega)
  refine b_cpy (zz := zz + 1) hB1 k2 ⟨by omega, oz⟩ (fun q fq => Fh.lt fq k2 (by decide)) (fun ν a g ha hka hca => ?_)
  have kz : mK ν zz = 11 := (g.kk (by omega)).trans k2
  have iz : mI ν 321 zz = 0 := (g.ii (by omega)).trans i2
  refine ⟨kz, h _ zz a lz (by omega) oz (by omega) ((((f0.tr f1).tr g).tr Fp_sR).up (fun b q => by omega)) ⟨⟨kz, sR_e, hka⟩, ⟨?_, hB.2.1.2.2⟩, hca⟩⟩
  rw [sR_I]
  exact iz
/-! typed, run -/
theorem l_runs {Q : Int32 → mmT → Prop} (h : Iv μ z B c v ct V) (hb : 119 ≤ B) (hb3 : B + 20000 < 2 ^ 26) (hS : Sg μ s a n) (hs : z + 585 ≤ s) (ha : z + 585 ≤ a) (hD : TD Q μ z B c v ct V) (hF : TF2 Q μ z B c v ct V) : w_L_runs G μ (some z) (some s) Q := by
  unfold w_L_runs
  have n16 := hS.2.1.2
  have key : ∀ d i μ', i + d = n → Kp z μ μ' → Iv μ' z B c v ct V → Sg μ' s a n → w_L_runs_l2 G Q (d + 1) (some z) (some s) (nI i) i μ' := by
    intro d
    induction d with
    | zero =>
      intro i μ' hi kp iv hS
      show w_L_runs_b2 G Q _ _ _ _ _ _
      unfold w_L_runs_b2 w_J0_length_8abf5_D w_J0_coder_7d493_D
      refine ⟨by omega, _, rfl, hS.1.1, hS.1.1, a, hS.1.2.1, hS.1.2.2.1, by decide, hS.1.1, hS.2.1.1, ?_⟩
      rw [hS.1.2.2.2, hS.2.1.1]
      dsimp only
      rw [shr0 (n := n) (by omega)]
      exact pk_le n i (fun _ => l_runScript iv hb hb3 (fun ρ r w h1 h2 h3 => hD ρ r w h1 (kp.tr h2) h3) (fun ρ e h1 h2 h3 => hF ρ e h1 (kp.tr h2) h3)) (fun c => by omega)
    | succ d ih =>
      intro i μ' hi kp iv hS
      show w_L_runs_b2 G Q _ _ _ _ _ _
      unfold w_L_runs_b2 w_J0_length_8abf5_D w_J0_coder_7d493_D
      refine ⟨by omega, _, rfl, hS.1.1, hS.1.1, a, hS.1.2.1, hS.1.2.2.1, by decide, hS.1.1, hS.2.1.1, ?_⟩
      rw [hS.1.2.2.2, hS.2.1.1]
      dsimp only
      rw [shr0 (n := n) (by omega)]
      refine pk_le n i (fun c => by omega) (fun il => ?_)
      unfold w_J0_charAt_5068e_D w_J0_isLatin1_aae02_D w_J1_charAt_3b067_D w_J0_checkIndex_df160 w_J3_checkIndex_8e157
      refine ⟨hS.1.1, by decide, hS.1.1, hS.2.1.1, by decide, a, hS.1.2.1, hS.1.2.2.1, ?_⟩
      rw [hS.1.2.2.2, cl (n := i) (by omega)]
      obtain ⟨q, hq, e1, e2⟩ := (hS.2.2 i il).chr
      rw [e1]
      refine ⟨nI_nneg (by omega), (nI_ltI (by omega) (by omega)).mpr il, vp_in_nI il (by omega), isCh_n (by omega), isCh_n (by omega), l_type iv (by omega) e2 (fun ρ e kp2 k1 k2 k3 k4 k5 iv2 => ?_)⟩
      rw [nI_add]
      exact ih (i + 1) ρ (by omega) (kp.tr kp2) iv2 ⟨by rw [k1, k2, k5]; exact hS.1, ⟨(k3 _ _ hs).trans hS.2.1.1, n16⟩, fun j hj => by rw [k4 a j ha]; exact hS.2.2 j hj⟩
  exact ⟨n + 1, key n 0 μ (Nat.zero_add _) Kp_rf h hS⟩
/-- .. from behind the texts -/
theorem r_runs {Q : Int32 → mmT → Prop} (h : Iv μ z B c v ct V) (hb : 119 ≤ B) (hb3 : B + 20000 < 2 ^ 26) (g : Fp (fun b => z + 585 ≤ b) μ ν) (hS : Sg ν s a n) (hs : z + 585 ≤ s) (ha : z + 585 ≤ a) (hD : TD Q μ z B c v ct V) (hF : TF2 Q μ z B c v ct V) : w_L_runs G ν (some z) (some s) Q :=
  l_runs (h.fp g (fun b q => q)) hb hb3 hS hs ha (fun ρ r w h1 h2 h3 => hD ρ r w h1 ((g.kp (fun b q => q)).tr h2) h3) (fun ρ e h1 h2 h3 => hF ρ e h1 ((g.kp (fun b q => q)).tr h2) h3)
end RUNS

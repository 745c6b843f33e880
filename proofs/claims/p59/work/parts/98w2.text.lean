/-! TEXTS THAT THE LAW MAKES -/
def Tc (x : Int32) : Prop := ∃ c, c < 128 ∧ x = nI c
/-- a builder of n characters; a text of n characters, its array at a -/
def Bl (μ : mmT) (o n : Nat) : Prop := (mK μ o = 1 ∧ mR μ 0 o = some (o + 1) ∧ mK μ (o + 1) = 32 ∧ mN μ (o + 1) = 16) ∧ (mI μ 1 o = 0 ∧ mI μ 3 o = nI n ∧ n ≤ 16) ∧ ∀ i, i < n → Tc (mA μ (o + 1) i)
def Sg (μ : mmT) (s a n : Nat) : Prop := (mK μ s = 11 ∧ mR μ 320 s = some a ∧ mK μ a = 32 ∧ mN μ a = n) ∧ (mI μ 321 s = 0 ∧ n ≤ 16) ∧ ∀ i, i < n → Tc (mA μ a i)
def Fh (μ : mmT) (zz : Nat) : Prop := ∀ a, mK μ a ≠ 0 → a < zz
def Aq (a : Nat) (μ ν : mmT) : Prop := Fp (fun b => b = a) μ ν ∧ mK ν a = mK μ a ∧ mN ν a = mN μ a
section TXT
variable {G : mgT} {μ ν ρ σ : mmT} {z a b c m i j k n o s e zz : Nat} {P P2 : Nat → Prop} {x y : Int32}
theorem Bl.fp (h : Bl μ o n) (g : Fp P μ ν) (h1 : ¬ P o) (h2 : ¬ P (o + 1)) : Bl ν o n :=
  ⟨⟨(g.kk h1).trans h.1.1, (g.rr h1).trans h.1.2.1, (g.kk h2).trans h.1.2.2.1, (g.nn h2).trans h.1.2.2.2⟩, ⟨(g.ii h1).trans h.2.1.1, (g.ii h1).trans h.2.1.2.1, h.2.1.2.2⟩, fun i hi => by rw [g.aa h2]; exact h.2.2 i hi⟩
theorem Sg.fp (h : Sg μ s a n) (g : Fp P μ ν) (h1 : ¬ P s) (h2 : ¬ P a) : Sg ν s a n :=
  ⟨⟨(g.kk h1).trans h.1.1, (g.rr h1).trans h.1.2.1, (g.kk h2).trans h.1.2.2.1, (g.nn h2).trans h.1.2.2.2⟩, ⟨(g.ii h1).trans h.2.1.1, h.2.1.2⟩, fun i hi => by rw [g.aa h2]; exact h.2.2 i hi⟩
theorem Aq_rf : Aq a μ μ := ⟨Fp_rf, rfl, rfl⟩
theorem Aq_sA : Aq a μ (sA μ a i x) := ⟨Fp_sA, rfl, rfl⟩
theorem Aq.tr (h : Aq a μ ν) (h2 : Aq a ν ρ) : Aq a μ ρ := ⟨(h.1.tr h2.1).up (fun b q => q.elim id id), h2.2.1.trans h.2.1, h2.2.2.trans h.2.2⟩
theorem Tc_n (h : n < 128) : Tc (nI n) := ⟨n, h, rfl⟩
theorem Tc.fit : ∀ {x : Int32}, Tc x → fits .byte (.int x) = true := fun {x} h => by
  obtain ⟨c, hc, rfl⟩ := h
  have key : ∀ c : Fin 128, fits .byte (.int (nI c.val)) = true := by decide +kernel
  exact key ⟨c, hc⟩
theorem Tc.chr : ∀ {x : Int32}, Tc x → ∃ c, c < 128 ∧ ((x &&& nI 255).toUInt32 % 65536).toInt32 = nI c ∧ vp_nar .char (nI c) = nI c := fun {x} h => by
  obtain ⟨c, hc, rfl⟩ := h
  have key : ∀ c : Fin 128, ((nI c.val &&& nI 255).toUInt32 % 65536).toInt32 = nI c.val ∧ vp_nar .char (nI c.val) = nI c.val := by decide +kernel
  exact ⟨c, hc, key ⟨c, hc⟩⟩
theorem shl0 {n : Nat} (h : n ≤ 64) : nI n <<< ((0 : Int32) &&& 31) = nI n := by
  rw [pk_shlN _ 0 (by decide) (by omega), Nat.pow_zero, Nat.mul_one]
theorem shr0 {n : Nat} (h : n ≤ 64) : nI n >>> ((0 : Int32) &&& 31) = nI n := by
  rw [pk_shrN (by omega) _ 0 (by decide), Nat.pow_zero, Nat.div_one]
theorem gb_ch (hj : j < 37) (hk : k < gLen.getD j 0) : Tc ((gByt.getD j []).getD k 0) := ⟨_, (gb_all j hj k hk).2.2, (gb_all j hj k hk).2.1⟩
/-- a builder is made -/
theorem b_new {Q : mmT → Prop} (h : ∀ ν, Fp (fun b => zz ≤ b) μ ν → Bl ν zz 0 → mK ν zz = 1 ∧ Q ν) : mK (nO μ zz 0) zz = 1 ∧ w_J4_init_da8c8 G (nO μ zz 0) (zz + 1) zz (fun μ12 z13 => mK μ12 zz = 1 ∧ Q μ12) := by
  have k0 : mK (nO μ zz 0) zz = 1 := nO_Ke
  have i3 : mI (nO μ zz 0) 3 zz = 0 := nO_Ie
  have f0 : Fp (fun b => b = zz) μ (nO μ zz 0) := Fp_nO
  refine ⟨k0, ?_⟩
  generalize nO μ zz 0 = μ0 at *
  have k1 : mK (nA μ0 (zz + 1) 0 16) zz = 1 := (nA_K (by omega)).trans k0
  have k2 : mK (nA μ0 (zz + 1) 0 16) (zz + 1) = 32 := nA_Ke
  have n2 : mN (nA μ0 (zz + 1) 0 16) (zz + 1) = 16 := nA_Ne
  have i1 : mI (nA μ0 (zz + 1) 0 16) 3 zz = 0 := by rw [nA_I]; exact i3
  have f1 : Fp (fun b => b = zz + 1) μ0 (nA μ0 (zz + 1) 0 16) := Fp_nA
  unfold w_J4_init_da8c8 w_J5_init_d00df
  refine ⟨k0, by decide, k1, k1, ?_⟩
  generalize nA μ0 (zz + 1) 0 16 = μ1 at *
  exact h _ ((((f0.tr f1).tr Fp_sR).tr Fp_sI).up (fun b q => by omega)) ⟨⟨k1, sR_e, k2, n2⟩, ⟨sI_e, (sI_o (by omega)).trans i1, Nat.zero_le _⟩, fun i hi => absurd hi (Nat.not_lt_zero _)⟩
theorem e_cap {Q : Prop} (hB : Bl μ o n) (hm : m ≤ 16) (h : Q) : w_J5_ensureCapacityInternal_d00df G μ o (nI m) Q := by
  unfold w_J5_ensureCapacityInternal_d00df
  refine ⟨hB.1.1, _, hB.1.2.1, hB.1.2.2.1, ?_, h⟩
  rw [hB.1.2.2.2, hB.2.1.1, cap16]
  apply Int32.le_iff_toInt_le.mpr
  rw [pk_sub_toInt (by omega) (by decide), show (0 : Int32).toInt = 0 by decide]
  omega
/-- what a builder holds after an append -/
theorem Bl_put (hB : Bl μ o n) (g : Aq (o + 1) μ ν) (hm : n + m ≤ 16) (hc : ∀ i, i < n + m → Tc (mA ν (o + 1) i)) : Fp (fun b => b = o ∨ b = o + 1) μ (sI ν 3 o (nI (n + m))) ∧ Bl (sI ν 3 o (nI (n + m))) o (n + m) := by
  have no : ¬ (o = o + 1) := by omega
  refine ⟨(g.1.tr Fp_sI).up (fun b q => by omega), ⟨(g.1.kk no).trans hB.1.1, ?_, g.2.1.trans hB.1.2.2.1, g.2.2.trans hB.1.2.2.2⟩, ⟨(sI_o (by omega)).trans ((g.1.ii no).trans hB.2.1.1), sI_e, hm⟩, hc⟩
  rw [sI_R]
  exact (g.1.rr no).trans hB.1.2.1
theorem sX_A {f : Nat → Int32} : mA (sX μ f a m n) a i = if m ≤ i ∧ i < m + n then f (i - m) else mA μ a i := by
  show (if a = a ∧ m ≤ i ∧ i < m + n then f (i - m) else mA μ a i) = _
  by_cases h : m ≤ i ∧ i < m + n
  · rw [if_pos ⟨rfl, h⟩, if_pos h]
  · rw [if_neg (fun q => h q.2), if_neg h]
theorem Aq_sX {f : Nat → Int32} : Aq a μ (sX μ f a m n) := ⟨Fp_sX, rfl, rfl⟩
/-- a text of the class files is appended -/
theorem b_str {Q : Option Nat → mmT → Prop} (hB : Bl μ o n) (hj : j < 37) (hn : n + gLen.getD j 0 ≤ 16) (h : ∀ ν, Fp (fun b => b = o ∨ b = o + 1) μ ν → Bl ν o (n + gLen.getD j 0) → Q (some o) ν) : w_J4_append_15ec4 G μ o (some (gS G j)) Q := by
  have k1 := hB.1.1
  unfold w_J4_append_15ec4 w_J5_append_cf1ce
  refine ⟨k1, _, rfl, j, rfl, hj, g_len hj ⟨k1, ?_⟩⟩
  rw [hB.2.1.2.1, nI_add]
  refine e_cap hB hn ?_
  unfold w_J5_putStringAt_47b60 w_J5_inflateIfNeededFor_a7421 w_J0_getBytes_840e7 w_J0_coder_7d493
  refine ⟨k1, by decide, k1, _, rfl, j, rfl, hj, by decide, j, rfl, hj, hB.2.1.1, _, rfl, j, rfl, hj, j, rfl, hj, by decide, j, rfl, hj, hB.2.1.1.symm, j, rfl, hj, o + 1, hB.1.2.1, hB.1.2.2.1, ?_⟩
  rw [hB.2.1.1, shl0 (by omega), cl (n := n) (by omega), cl (n := gLen.getD j 0) (by omega), hB.1.2.2.2]
  refine ⟨nI_nneg (by omega), nI_nneg (by omega), by rw [show (nI 0).toNatClampNeg = 0 from rfl]; omega, hn, ?_⟩
  have cs : ∀ i, i < n + gLen.getD j 0 → Tc (mA (sX μ (fun i9 => (gByt.getD j []).getD ((nI 0).toNatClampNeg + i9) 0) (o + 1) n (gLen.getD j 0)) (o + 1) i) := fun i hi => by
    rw [sX_A]
    by_cases c : n ≤ i ∧ i < n + gLen.getD j 0
    · rw [if_pos c]
      show Tc ((gByt.getD j []).getD (0 + (i - n)) 0)
      rw [Nat.zero_add]
      exact gb_ch hj (by omega)
    · rw [if_neg c]
      exact hB.2.2 i (by omega)
  have g : Aq (o + 1) μ (sX μ (fun i9 => (gByt.getD j []).getD ((nI 0).toNatClampNeg + i9) 0) (o + 1) n (gLen.getD j 0)) := Aq_sX
  have e3 : mI (sX μ (fun i9 => (gByt.getD j []).getD ((nI 0).toNatClampNeg + i9) 0) (o + 1) n (gLen.getD j 0)) 3 o = nI n := hB.2.1.2.1
  generalize sX μ (fun i9 => (gByt.getD j []).getD ((nI 0).toNatClampNeg + i9) 0) (o + 1) n (gLen.getD j 0) = ν at *
  refine ⟨(g.1.kk (by omega)).trans k1, ?_⟩
  rw [e3, nI_add]
  obtain ⟨q1, q2⟩ := Bl_put hB g hn cs
  exact h _ q1 q2
/-- a text of ours is appended -/
theorem b_sD {Q : Option Nat → mmT → Prop} (hB : Bl μ o n) (hS : Sg μ s a m) (hn : n + m ≤ 16) (h : ∀ ν, Fp (fun b => b = o ∨ b = o + 1) μ ν → Bl ν o (n + m) → Q (some o) ν) : w_J4_append_15ec4_D G μ o (some s) Q := by
  have k1 := hB.1.1
  have s1 := hS.1.1
  have m16 := hS.2.1.2
  unfold w_J4_append_15ec4_D w_J5_append_cf1ce_D w_J0_length_8abf5_D w_J0_coder_7d493_D
  refine ⟨k1, _, rfl, s1, s1, a, hS.1.2.1, hS.1.2.2.1, by decide, s1, hS.2.1.1, k1, ?_⟩
  rw [hB.2.1.2.1, hS.1.2.2.2, hS.2.1.1, shr0 (by omega), nI_add]
  refine e_cap hB hn ?_
  unfold w_J5_putStringAt_47b60_D w_J5_inflateIfNeededFor_a7421_D w_J0_getBytes_840e7_D w_J0_coder_7d493_D
  refine ⟨k1, by decide, k1, _, rfl, s1, by decide, s1, hS.2.1.1, hB.2.1.1.trans hS.2.1.1.symm, _, rfl, s1, s1, by decide, s1, hS.2.1.1, hS.2.1.1.trans hB.2.1.1.symm, a, hS.1.2.1, hS.1.2.2.1, o + 1, hB.1.2.1, hB.1.2.2.1, ?_⟩
  rw [hB.2.1.1, shl0 (by omega), hS.1.2.2.2, cl (n := n) (by omega), cl (n := m) (by omega), hB.1.2.2.2]
  refine ⟨nI_nneg (by omega), nI_nneg (by omega), by rw [show (nI 0).toNatClampNeg = 0 from rfl]; omega, hn, fun i hi => ?_, ?_⟩
  · rw [show (nI 0).toNatClampNeg = 0 from rfl, Nat.zero_add]
    exact (hS.2.2 i hi).fit
  have cs : ∀ i, i < n + m → Tc (mA (sX μ (fun i9 => mA μ a ((nI 0).toNatClampNeg + i9)) (o + 1) n m) (o + 1) i) := fun i hi => by
    rw [sX_A]
    by_cases c : n ≤ i ∧ i < n + m
    · rw [if_pos c]
      show Tc (mA μ a (0 + (i - n)))
      rw [Nat.zero_add]
      exact hS.2.2 _ (by omega)
    · rw [if_neg c]
      exact hB.2.2 i (by omega)
  have g : Aq (o + 1) μ (sX μ (fun i9 => mA μ a ((nI 0).toNatClampNeg + i9)) (o + 1) n m) := Aq_sX
  have e3 : mI (sX μ (fun i9 => mA μ a ((nI 0).toNatClampNeg + i9)) (o + 1) n m) 3 o = nI n := hB.2.1.2.1
  generalize sX μ (fun i9 => mA μ a ((nI 0).toNatClampNeg + i9)) (o + 1) n m = ν at *
  refine ⟨(g.1.kk (by omega)).trans k1, ?_⟩
  rw [e3, nI_add]
  obtain ⟨q1, q2⟩ := Bl_put hB g hn cs
  exact h _ q1 q2
/-! digits -/
theorem d_two {Q : Int32 → mmT → Prop} (K : Int32 → Option Nat → Int32 → Int32 → mmT → Prop) (hK : mK μ a = 32) (hN : mN μ a = 16) (hk : k < 100) (he : 1 ≤ e) (he1 : 10 ≤ k → 2 ≤ e) (he2 : e ≤ 16)
    (h : ∀ ν x5, Aq a μ ν → (∀ j, mA ν a j = if j = e - 1 then nI (48 + k % 10) else if j + 2 = e ∧ 10 ≤ k then nI (48 + k / 10) else mA μ a j) → Q x5 ν) : w_J6_getChars_ba4f3_b22 G Q K (-(nI k)) (some a) (nI e) (nI 0) μ := by
  obtain ⟨e, rfl⟩ : ∃ d, e = d + 1 := ⟨e - 1, by omega⟩
  have g1 := (gOnes ⟨k, hk⟩).1
  have g2 := (gOnes ⟨k, hk⟩).2
  unfold w_J6_getChars_ba4f3_b22 w_J6_getChars_ba4f3_b104 w_J6_getChars_ba4f3_b118
  rw [Int32.neg_neg, pk_m1, cl (n := k) (by omega), cl (n := e) (by omega)]
  have e1 : gOne k = nI (48 + k % 10) := g1
  have e2 : gTen k = nI (48 + k / 10) := g2
  rw [e1, e2, nar1 (c := 48 + k % 10) (by omega), nar1 (c := 48 + k / 10) (by omega)]
  refine ⟨fun _ => ⟨vp_in_nI hk (by decide), _, rfl, hK, vp_th hN (by omega) (by decide), fun c => ⟨fun _ => ?_, fun c0 => absurd rfl c0⟩, fun c => ?_⟩, fun c => absurd ((nM_lt (by omega)).mpr hk) c⟩
  · have c9 : k ≤ 9 := (nM_ge (p := 9) (by decide) (by omega)).mp c
    refine h _ _ Aq_sA (fun j => ?_)
    by_cases y : j = e
    · rw [if_pos (by omega), y]
      exact sA_e
    · rw [if_neg (by omega), if_neg (by omega)]
      exact sA_o (fun h => y h.2)
  · have c9 : 10 ≤ k := by
      have : ¬ k ≤ 9 := fun q => c ((nM_ge (p := 9) (by decide) (by omega)).mpr q)
      omega
    have := he1 c9
    obtain ⟨d, rfl⟩ : ∃ d, e = d + 1 := ⟨e - 1, by omega⟩
    rw [pk_m1, cl (n := d) (by omega)]
    refine ⟨vp_in_nI hk (by decide), vp_th (a := a) (N := 16) hN (by omega) (by decide), fun _ => ?_, fun c0 => absurd rfl c0⟩
    refine h _ _ (Aq_sA.tr Aq_sA) (fun j => ?_)
    by_cases y2 : j = d
    · rw [if_neg (by omega), if_pos (by omega), y2]
      exact sA_e
    · by_cases y : j = d + 1
      · rw [if_pos (by omega), y]
        exact (sA_o (by omega)).trans sA_e
      · rw [if_neg (by omega), if_neg (by omega)]
        exact (sA_o (fun h => y2 h.2)).trans (sA_o (fun h => y h.2))
theorem d_chars {Q : Int32 → mmT → Prop} (hK : mK μ a = 32) (hN : mN μ a = 16) (hk : k < 1000) (hn : n + dS k ≤ 16) (he : ∀ i, i < n → Tc (mA μ a i))
    (h : ∀ ν x5, Aq a μ ν → (∀ j, j < n + dS k → Tc (mA ν a j)) → Q x5 ν) : w_J6_getChars_ba4f3 G μ (nI k) (nI (n + dS k)) (some a) Q := by
  have ds := dS_c (show k < 10000 by omega)
  unfold w_J6_getChars_ba4f3 w_J6_getChars_ba4f3_b12
  refine ⟨fun _ => ⟨fun c => absurd rfl c, fun _ => ?_⟩, fun c => absurd (nI_le (a := 0) (by omega) (by omega)) c⟩
  by_cases c2 : k < 100
  · refine ⟨1, ?_⟩
    show w_J6_getChars_ba4f3_b22 G Q _ (-(nI k)) _ _ _ μ
    refine d_two _ hK hN c2 (by omega) (by omega) hn (fun ν x5 g fj => h ν x5 g (fun j hj => ?_))
    rw [fj]
    by_cases y : j = n + dS k - 1
    · rw [if_pos y]
      exact Tc_n (by omega)
    · rw [if_neg y]
      by_cases y2 : j + 2 = n + dS k ∧ 10 ≤ k
      · rw [if_pos y2]
        exact Tc_n (by omega)
      · rw [if_neg y2]
        exact he j (by omega)
  · refine ⟨2, ?_⟩
    show w_J6_getChars_ba4f3_b22 G Q (w_J6_getChars_la4f3_l22 G Q 1) (-(nI k)) _ _ _ μ
    unfold w_J6_getChars_ba4f3_b22
    obtain ⟨d, hd⟩ : ∃ d, n + dS k = d + 1 + 1 := ⟨n + dS k - 2, by omega⟩
    have e1 : gOne (k % 100) = nI (48 + k % 100 % 10) := (gOnes ⟨k % 100, Nat.mod_lt _ (by decide)⟩).1
    have e2 : gTen (k % 100) = nI (48 + k % 100 / 10) := (gOnes ⟨k % 100, Nat.mod_lt _ (by decide)⟩).2
    rw [nM_rem (by omega), nM_div (by omega), hd, pk_m1, pk_m1, cl (n := k % 100) (by omega), cl (n := d + 1) (by omega), cl (n := d) (by omega), e1, e2, nar1 (c := 48 + k % 100 % 10) (by omega), nar1 (c := 48 + k % 100 / 10) (by omega)]
    refine ⟨fun c => absurd ((nM_lt (by omega)).mp c) c2, fun _ => ⟨vp_in_nI (by omega) (by decide), _, rfl, hK, vp_th (a := a) (N := 16) hN (by omega) (by decide), vp_in_nI (by omega) (by decide), vp_th (a := a) (N := 16) hN (by omega) (by decide), ?_⟩⟩
    show w_J6_getChars_ba4f3_b22 G Q _ (-(nI (k / 100))) _ _ _ _
    have g0 : Aq a μ (sA (sA μ a (d + 1) (nI (48 + k % 100 % 10))) a d (nI (48 + k % 100 / 10))) := Aq_sA.tr Aq_sA
    have a0 : ∀ j, mA (sA (sA μ a (d + 1) (nI (48 + k % 100 % 10))) a d (nI (48 + k % 100 / 10))) a j = if j = d then nI (48 + k % 100 / 10) else if j = d + 1 then nI (48 + k % 100 % 10) else mA μ a j := fun j => by
      by_cases y : j = d
      · rw [if_pos y, y]
        exact sA_e
      · rw [if_neg y]
        by_cases y2 : j = d + 1
        · rw [if_pos y2, y2]
          exact (sA_o (by omega)).trans sA_e
        · rw [if_neg y2]
          exact (sA_o (fun h => y h.2)).trans (sA_o (fun h => y2 h.2))
    generalize sA (sA μ a (d + 1) (nI (48 + k % 100 % 10))) a d (nI (48 + k % 100 / 10)) = σ at *
    refine d_two _ (g0.2.1.trans hK) (g0.2.2.trans hN) (by omega) (by omega) (by omega) (by omega) (fun ν x5 g fj => h ν x5 (g0.tr g) (fun j hj => ?_))
    rw [fj]
    by_cases y : j = d - 1
    · rw [if_pos y]
      exact Tc_n (by omega)
    · rw [if_neg y]
      by_cases y2 : j + 2 = d ∧ 10 ≤ k / 100
      · rw [if_pos y2]
        exact Tc_n (by omega)
      · rw [if_neg y2, a0]
        by_cases y3 : j = d
        · rw [if_pos y3]
          exact Tc_n (by omega)
        · rw [if_neg y3]
          by_cases y4 : j = d + 1
          · rw [if_pos y4]
            exact Tc_n (by omega)
          · rw [if_neg y4]
            exact he j (by omega)
/-- a number is appended -/
theorem b_int {Q : Option Nat → mmT → Prop} (hB : Bl μ o n) (hk : k < 1000) (hn : n + dS k ≤ 16) (h : ∀ ν, Fp (fun b => b = o ∨ b = o + 1) μ ν → Bl ν o (n + dS k) → Q (some o) ν) : w_J4_append_bf812 G μ o (nI k) Q := by
  have k1 := hB.1.1
  unfold w_J4_append_bf812 w_J5_append_c97b9
  refine ⟨k1, k1, t_stringSize (by omega) ?_⟩
  rw [hB.2.1.2.1, nI_add]
  refine e_cap hB hn ?_
  unfold w_J5_isLatin1_aae02
  refine ⟨by decide, k1, hB.2.1.1, by decide, ?_⟩
  rw [hB.1.2.1]
  refine d_chars hB.1.2.2.1 hB.1.2.2.2 hk hn hB.2.2 (fun ν x5 g hc => ⟨(g.1.kk (by omega)).trans k1, ?_⟩)
  obtain ⟨q1, q2⟩ := Bl_put hB g hn hc
  exact h _ q1 q2
end TXT

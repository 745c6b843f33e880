/-! DIGITS: the builder's append, the reference's writes -/
def pt (f : Nat → Nat) (n c : Nat) : Nat → Nat := fun j => if j = n then c else f j
/-- how many digits k has (below 10000), and the text with them from n on -/
def dS (k : Nat) : Nat := if k < 10 then 1 else if k < 100 then 2 else if k < 1000 then 3 else 4
def dP (f : Nat → Nat) (n k : Nat) : Nat → Nat :=
  if k < 10 then pt f n (48 + k) else if k < 100 then pt (pt f n (48 + k / 10)) (n + 1) (48 + k % 10) else if k < 1000 then pt (pt (pt f n (48 + k / 100)) (n + 1) (48 + k / 10 % 10)) (n + 2) (48 + k % 10)
  else pt (pt (pt (pt f n (48 + k / 1000)) (n + 1) (48 + k / 100 % 10)) (n + 2) (48 + k / 10 % 10)) (n + 3) (48 + k % 10)
/-- the builder holds n characters f -/
def Ob (μ : mmT) (z n : Nat) (f : Nat → Nat) : Prop := mI μ 1 (z + 582) = 0 ∧ mI μ 3 (z + 582) = nI n ∧ ∀ i, i < n → mA μ (z + 583) i = nI (f i)
section DIG
variable {G : mgT} {μ ν ρ σ : mmT} {z a b c m i n k q : Nat} {f : Nat → Nat}
theorem Ob.ag {P : Nat → Prop} (h : Ob μ z n f) (g : Ag z μ ν P) (h1 : ¬ P (z + 582)) (h2 : ¬ P (z + 583)) : Ob ν z n f := ⟨(g.I h1).trans h.1, (g.I h1).trans h.2.1, fun i hi => (g.A h2).trans (h.2.2 i hi)⟩
theorem Ob.cg {g : Nat → Nat} (h : Ob μ z n f) (e : ∀ i, i < n → g i = f i) : Ob μ z n g := ⟨h.1, h.2.1, fun i hi => by rw [e i hi]; exact h.2.2 i hi⟩
theorem nar_b : ∀ c : Fin 128, vp_nar .byte (nI c.val) = nI c.val ∧ vp_nar .byte (nI c.val).toInt8.toInt32 = nI c.val := by decide +kernel
theorem nar1 {c : Nat} (h : c < 128) : vp_nar .byte (nI c) = nI c := (nar_b ⟨c, h⟩).1
theorem nar8 {c : Nat} (h : c < 128) : vp_nar .byte (nI c).toInt8.toInt32 = nI c := (nar_b ⟨c, h⟩).2
theorem gOnes : ∀ k : Fin 100, gOne k.val = nI (48 + k.val % 10) ∧ gTen k.val = nI (48 + k.val / 10) := by decide +kernel
theorem cap16 : nI 16 >>> ((0 : Int32) &&& 31) = nI 16 := by decide
theorem t_ensure {Q : Prop} (hT : ST μ z) (h1 : mI μ 1 (z + 582) = 0) (hn : n ≤ 16) (h : Q) : w_J5_ensureCapacityInternal_d00df G μ (z + 582) (nI n) Q := by
  unfold w_J5_ensureCapacityInternal_d00df
  refine ⟨hT.o.1, _, hT.o.2.1, hT.o.2.2.1, ?_, h⟩
  rw [hT.o.2.2.2, h1, cap16]
  apply Int32.le_iff_toInt_le.mpr
  rw [pk_sub_toInt (by omega) (by decide), show (0 : Int32).toInt = 0 by decide]
  omega
abbrev Po (z : Nat) : Nat → Prop := fun b => b = z + 582 ∨ b = z + 583
theorem nM (k : Nat) : -(nI k) = nI 0 - nI k := (Int32.zero_sub _).symm
theorem nM_toInt (h : k < 2 ^ 30) : (-(nI k)).toInt = -(k : Int) := by
  rw [nM, pk_sub_toInt (by decide) h]
  omega
theorem nM_div (h : k < 2 ^ 30) : -(nI k) / nI 100 = -(nI (k / 100)) := by
  apply Int32.toInt_inj.mp
  rw [Int32.toInt_div, nM_toInt h, nM_toInt (by omega), nI_toInt (by decide), Int.neg_tdiv, Int.natCast_tdiv_eq_ediv]
  exact Int.bmod_eq_of_le (by omega) (by omega)
theorem nM_rem (h : k < 2 ^ 30) : -(nI k) / nI 100 * nI 100 - -(nI k) = nI (k % 100) := by
  rw [nM_div h, Int32.sub_neg, Int32.neg_mul, pk_mul]
  have : nI k = nI (k % 100) + nI (k / 100 * 100) := by rw [nI_add, Nat.mod_add_div']
  rw [this, Int32.add_comm (nI (k % 100)), ← Int32.add_assoc, Int32.add_left_neg, Int32.zero_add]
theorem nM_lt (h : k < 2 ^ 30) : (-100 : Int32) < -(nI k) ↔ k < 100 := by
  rw [Int32.lt_iff_toInt_lt, nM_toInt h, show (-100 : Int32).toInt = -100 by decide]
  omega
theorem nM_le {x : Int32} {p : Nat} (hx : x.toInt = -(p : Int)) (h : k < 2 ^ 30) : -(nI k) ≤ x ↔ p ≤ k := by
  rw [Int32.le_iff_toInt_le, nM_toInt h, hx]
  omega
theorem nM_ge {x : Int32} {p : Nat} (hx : x.toInt = -(p : Int)) (h : k < 2 ^ 30) : x ≤ -(nI k) ↔ k ≤ p := by
  rw [Int32.le_iff_toInt_le, nM_toInt h, hx]
  omega
theorem t_stringSize {Q : Int32 → Prop} (hk : k < 10000) (h : Q (nI (dS k))) : w_J6_stringSize_0f7a4 G μ (nI k) Q := by
  unfold w_J6_stringSize_0f7a4 w_J6_stringSize_0f7a4_b11
  refine ⟨fun c => absurd c (nI_nneg (by omega)), fun _ => ⟨5, ?_⟩⟩
  have st : ∀ (n : Nat) (x : Int32) (p j : Nat), x.toInt = -(p : Int) → j < 10 → (k < p → Q (nI j)) → (p ≤ k → w_J6_stringSize_0f7a4_l16 G μ Q n (-(nI k)) (nI 0) (nI 10 * x) (nI (j + 1))) → w_J6_stringSize_0f7a4_l16 G μ Q (n + 1) (-(nI k)) (nI 0) x (nI j) := by
    intro n x p j hx hj h1 h2
    show w_J6_stringSize_0f7a4_b16 G μ Q _ (-(nI k)) (nI 0) x (nI j)
    unfold w_J6_stringSize_0f7a4_b16
    refine pk_le 10 j (fun c => by omega) (fun _ => ⟨fun c => ?_, fun c => ?_⟩)
    · rw [nI_add]
      exact h2 ((nM_le hx (by omega)).mp c)
    · rw [nI_add]
      have : ¬ p ≤ k := fun e => c ((nM_le hx (by omega)).mpr e)
      exact h1 (by omega)
  unfold dS at h
  refine st 4 (-10) 10 1 (by decide) (by decide) (fun c => ?_) (fun c => ?_)
  · rw [if_pos c] at h
    exact h
  · rw [if_neg (by omega)] at h
    refine st 3 _ 100 2 (by decide) (by decide) (fun c2 => ?_) (fun c2 => ?_)
    · rw [if_pos c2] at h
      exact h
    · rw [if_neg (by omega)] at h
      refine st 2 _ 1000 3 (by decide) (by decide) (fun c3 => ?_) (fun c3 => ?_)
      · rw [if_pos c3] at h
        exact h
      · rw [if_neg (by omega)] at h
        exact st 1 _ 10000 4 (by decide) (by decide) (fun _ => h) (fun c4 => by omega)
/-- two digits or one, put ahead of e -/
theorem t_two {Q : Int32 → mmT → Prop} {e : Nat} (K : Int32 → Option Nat → Int32 → Int32 → mmT → Prop) (hT : ST μ z) (hk : k < 100) (he : 1 ≤ e) (he1 : 10 ≤ k → 2 ≤ e) (he2 : e ≤ 16)
    (h : ∀ ν x5, Ag z μ ν (Po z) → (∀ F, mI ν F (z + 582) = mI μ F (z + 582)) → (∀ j, mA ν (z + 583) j = if j = e - 1 then nI (48 + k % 10) else if j + 2 = e ∧ 10 ≤ k then nI (48 + k / 10) else mA μ (z + 583) j) → Q x5 ν) : w_J6_getChars_ba4f3_b22 G Q K (-(nI k)) (some (z + 583)) (nI e) (nI 0) μ := by
  obtain ⟨e, rfl⟩ : ∃ d, e = d + 1 := ⟨e - 1, by omega⟩
  have g1 := (gOnes ⟨k, hk⟩).1
  have g2 := (gOnes ⟨k, hk⟩).2
  unfold w_J6_getChars_ba4f3_b22 w_J6_getChars_ba4f3_b104 w_J6_getChars_ba4f3_b118
  rw [Int32.neg_neg, pk_m1, cl (n := k) (by omega), cl (n := e) (by omega)]
  have e1 : gOne k = nI (48 + k % 10) := g1
  have e2 : gTen k = nI (48 + k / 10) := g2
  rw [e1, e2, nar1 (c := 48 + k % 10) (by omega), nar1 (c := 48 + k / 10) (by omega)]
  refine ⟨fun _ => ⟨vp_in_nI hk (by decide), _, rfl, hT.o.2.2.1, vp_th hT.o.2.2.2 (by omega) (by decide), fun c => ⟨fun _ => ?_, fun c0 => absurd rfl c0⟩, fun c => ?_⟩, fun c => absurd ((nM_lt (by omega)).mpr hk) c⟩
  · have c9 : k ≤ 9 := (nM_ge (p := 9) (by decide) (by omega)).mp c
    refine h _ _ (Ag_sA.up (fun b h => Or.inr h)) (fun F => sA_I) (fun j => ?_)
    by_cases y : j = e
    · rw [if_pos (by omega), y]
      exact sA_e
    · rw [if_neg (by omega), if_neg (by omega)]
      exact sA_o (fun h => y h.2)
  · have c9 : 10 ≤ k := by
      have : ¬ k ≤ 9 := fun q => c ((nM_ge (p := 9) (by decide) (by omega)).mpr q)
      omega
    have := he1 c9
    obtain ⟨d, rfl⟩ : ∃ d, e = d + 1 := ⟨e - 1, by omega⟩
    rw [pk_m1, cl (n := d) (by omega)]
    refine ⟨vp_in_nI hk (by decide), vp_th (a := z + 583) (N := 16) hT.o.2.2.2 (by omega) (by decide), fun _ => ?_, fun c0 => absurd rfl c0⟩
    refine h _ _ ((Ag_sA.tr Ag_sA).up (fun b h => Or.inr (h.elim id id))) (fun F => sA_I.trans sA_I) (fun j => ?_)
    by_cases y2 : j = d
    · rw [if_neg (by omega), if_pos (by omega), y2]
      exact sA_e
    · by_cases y : j = d + 1
      · rw [if_pos (by omega), y]
        exact (sA_o (by omega)).trans sA_e
      · rw [if_neg (by omega), if_neg (by omega)]
        exact (sA_o (fun h => y2 h.2)).trans (sA_o (fun h => y h.2))
/-- the characters of a number below 10000 -/
theorem dP_at (hk : k < 10000) : ∀ j, (j < n → dP f n k j = f j) ∧ (j + 1 = n + dS k → dP f n k j = 48 + k % 10) ∧ (10 ≤ k → j + 2 = n + dS k → dP f n k j = 48 + k / 10 % 10) ∧ (100 ≤ k → j + 3 = n + dS k → dP f n k j = 48 + k / 100 % 10) ∧ (1000 ≤ k → j + 4 = n + dS k → dP f n k j = 48 + k / 1000 % 10) := by
  intro j
  unfold dP dS pt
  by_cases c1 : k < 10
  · rw [if_pos c1, if_pos c1]
    refine ⟨fun h => if_neg (by omega), fun h => ?_, fun h => by omega, fun h => by omega, fun h => by omega⟩
    rw [if_pos (by omega)]
    omega
  · rw [if_neg c1, if_neg c1]
    by_cases c2 : k < 100
    · rw [if_pos c2, if_pos c2]
      refine ⟨fun h => ?_, fun h => ?_, fun _ h => ?_, fun h => by omega, fun h => by omega⟩
      · rw [if_neg (by omega), if_neg (by omega)]
      · rw [if_pos (by omega)]
      · rw [if_neg (by omega), if_pos (by omega)]
        omega
    · rw [if_neg c2, if_neg c2]
      by_cases c3 : k < 1000
      · rw [if_pos c3, if_pos c3]
        refine ⟨fun h => ?_, fun h => ?_, fun _ h => ?_, fun _ h => ?_, fun h => by omega⟩
        · rw [if_neg (by omega), if_neg (by omega), if_neg (by omega)]
        · rw [if_pos (by omega)]
        · rw [if_neg (by omega), if_pos (by omega)]
        · rw [if_neg (by omega), if_neg (by omega), if_pos (by omega)]
          omega
      · rw [if_neg c3, if_neg c3]
        refine ⟨fun h => ?_, fun h => ?_, fun _ h => ?_, fun _ h => ?_, fun _ h => ?_⟩
        · rw [if_neg (by omega), if_neg (by omega), if_neg (by omega), if_neg (by omega)]
        · rw [if_pos (by omega)]
        · rw [if_neg (by omega), if_pos (by omega)]
        · rw [if_neg (by omega), if_neg (by omega), if_pos (by omega)]
        · rw [if_neg (by omega), if_neg (by omega), if_neg (by omega), if_pos (by omega)]
          omega
theorem dS_c (hk : k < 10000) : (k < 10 ∧ dS k = 1) ∨ (10 ≤ k ∧ k < 100 ∧ dS k = 2) ∨ (100 ≤ k ∧ k < 1000 ∧ dS k = 3) ∨ (1000 ≤ k ∧ dS k = 4) := by
  unfold dS
  by_cases c1 : k < 10
  · rw [if_pos c1]; omega
  · rw [if_neg c1]
    by_cases c2 : k < 100
    · rw [if_pos c2]; omega
    · rw [if_neg c2]
      by_cases c3 : k < 1000
      · rw [if_pos c3]; omega
      · rw [if_neg c3]; omega
theorem t_getChars {Q : Int32 → mmT → Prop} (hT : ST μ z) (hk : k < 10000) (hn : n + dS k ≤ 16) (he : ∀ i, i < n → mA μ (z + 583) i = nI (f i))
    (h : ∀ ν x5, Ag z μ ν (Po z) → (∀ F, mI ν F (z + 582) = mI μ F (z + 582)) → (∀ j, j < n + dS k → mA ν (z + 583) j = nI (dP f n k j)) → Q x5 ν) : w_J6_getChars_ba4f3 G μ (nI k) (nI (n + dS k)) (some (z + 583)) Q := by
  have ds := dS_c hk
  have dp := dP_at (f := f) (n := n) hk
  unfold w_J6_getChars_ba4f3 w_J6_getChars_ba4f3_b12
  refine ⟨fun _ => ⟨fun c => absurd rfl c, fun _ => ?_⟩, fun c => absurd (nI_le (a := 0) (by omega) (by omega)) c⟩
  by_cases c2 : k < 100
  · refine ⟨1, ?_⟩
    show w_J6_getChars_ba4f3_b22 G Q _ (-(nI k)) _ _ _ μ
    refine t_two _ hT c2 (by omega) (by omega) hn (fun ν x5 g f5 fj => h ν x5 g f5 (fun j hj => ?_))
    rw [fj]
    by_cases y : j = n + dS k - 1
    · rw [if_pos y, (dp j).2.1 (by omega)]
    · rw [if_neg y]
      by_cases y2 : j + 2 = n + dS k ∧ 10 ≤ k
      · rw [if_pos y2, (dp j).2.2.1 y2.2 y2.1, show k / 10 % 10 = k / 10 by omega]
      · rw [if_neg y2, (dp j).1 (by omega)]
        exact he j (by omega)
  · refine ⟨2, ?_⟩
    show w_J6_getChars_ba4f3_b22 G Q (w_J6_getChars_la4f3_l22 G Q 1) (-(nI k)) _ _ _ μ
    unfold w_J6_getChars_ba4f3_b22
    obtain ⟨d, hd⟩ : ∃ d, n + dS k = d + 1 + 1 := ⟨n + dS k - 2, by omega⟩
    have e1 : gOne (k % 100) = nI (48 + k % 100 % 10) := (gOnes ⟨k % 100, Nat.mod_lt _ (by decide)⟩).1
    have e2 : gTen (k % 100) = nI (48 + k % 100 / 10) := (gOnes ⟨k % 100, Nat.mod_lt _ (by decide)⟩).2
    rw [nM_rem (by omega), nM_div (by omega), hd, pk_m1, pk_m1, cl (n := k % 100) (by omega), cl (n := d + 1) (by omega), cl (n := d) (by omega), e1, e2, nar1 (c := 48 + k % 100 % 10) (by omega), nar1 (c := 48 + k % 100 / 10) (by omega)]
    refine ⟨fun c => absurd ((nM_lt (by omega)).mp c) c2, fun _ => ⟨vp_in_nI (by omega) (by decide), _, rfl, hT.o.2.2.1, vp_th (a := z + 583) (N := 16) hT.o.2.2.2 (by omega) (by decide), vp_in_nI (by omega) (by decide), vp_th (a := z + 583) (N := 16) hT.o.2.2.2 (by omega) (by decide), ?_⟩⟩
    show w_J6_getChars_ba4f3_b22 G Q _ (-(nI (k / 100))) _ _ _ _
    have g0 : Ag z μ (sA (sA μ (z + 583) (d + 1) (nI (48 + k % 100 % 10))) (z + 583) d (nI (48 + k % 100 / 10))) (Po z) := (Ag_sA.tr Ag_sA).up (fun b h => Or.inr (h.elim id id))
    have a0 : ∀ j, mA (sA (sA μ (z + 583) (d + 1) (nI (48 + k % 100 % 10))) (z + 583) d (nI (48 + k % 100 / 10))) (z + 583) j = if j = d then nI (48 + k % 100 / 10) else if j = d + 1 then nI (48 + k % 100 % 10) else mA μ (z + 583) j := fun j => by
      by_cases y : j = d
      · rw [if_pos y, y]
        exact sA_e
      · rw [if_neg y]
        by_cases y2 : j = d + 1
        · rw [if_pos y2, y2]
          exact (sA_o (by omega)).trans sA_e
        · rw [if_neg y2]
          exact (sA_o (fun h => y h.2)).trans (sA_o (fun h => y2 h.2))
    have i0 : ∀ F, mI (sA (sA μ (z + 583) (d + 1) (nI (48 + k % 100 % 10))) (z + 583) d (nI (48 + k % 100 / 10))) F (z + 582) = mI μ F (z + 582) := fun F => rfl
    generalize sA (sA μ (z + 583) (d + 1) (nI (48 + k % 100 % 10))) (z + 583) d (nI (48 + k % 100 / 10)) = σ at *
    refine t_two _ (hT.ag g0) (by omega) (by omega) (by omega) (by omega) (fun ν x5 g f5 fj => h ν x5 ((g0.tr g).up (fun b h => h.elim id id)) (fun F => (f5 F).trans (i0 F)) (fun j hj => ?_))
    rw [fj]
    by_cases y : j = d - 1
    · rw [if_pos y, (dp j).2.2.2.1 (by omega) (by omega)]
    · rw [if_neg y]
      by_cases y2 : j + 2 = d ∧ 10 ≤ k / 100
      · rw [if_pos y2, (dp j).2.2.2.2 (by omega) (by omega), show k / 1000 % 10 = k / 100 / 10 by omega]
      · rw [if_neg y2, a0]
        by_cases y3 : j = d
        · rw [if_pos y3, (dp j).2.2.1 (by omega) (by omega), show k / 10 % 10 = k % 100 / 10 by omega]
        · rw [if_neg y3]
          by_cases y4 : j = d + 1
          · rw [if_pos y4, (dp j).2.1 (by omega), show k % 10 = k % 100 % 10 by omega]
          · rw [if_neg y4, (dp j).1 (by omega)]
            exact he j (by omega)
end DIG

/-! THE REFERENCE'S HISTORY -/
def cpG (g h : Nat → Int32) (dp i : Nat) : Nat → Int32 := fun j => if dp ≤ j ∧ j < dp + i then h (j - dp) else g j
def HM (μ : mmT) (z ct : Nat) (V : Nat → Nat → Nat) : Prop := mI μ 326 (z + 584) = nI ct ∧ ∀ k, k < ct → ∀ q, q < 258 → mA μ (z + 588) (258 * k + q) = nI (V k q)
section MHIST
variable {G : mgT} {μ ν ρ : mmT} {z a b c m i F nx ct dp kp : Nat} {S S2 : cT} {v w v0 : Nat → Nat} {g h : Nat → Int32} {V : Nat → Nat → Nat} {P P2 : Nat → Prop} {B N : Nat} {x : Int32}
theorem AT_I : mI (AT μ b g) F c = mI μ F c := rfl
theorem VT_I : mI (VT μ m v) F c = mI μ F c := rfl
theorem VT_Az : mA (VT μ (z + 584) v) (z + 585) i = nI (v i) := VT_A (m := z + 584)
theorem sI_A : mA (sI μ F c x) b i = mA μ b i := rfl
theorem cpG_0 : cpG g h dp 0 = g := funext fun j => if_neg (by omega)
theorem cpG_s : (fun j => if j = dp + i then h i else cpG g h dp i j) = cpG g h dp (i + 1) := by
  funext j
  unfold cpG
  by_cases y : j = dp + i
  · rw [if_pos y, if_pos (by omega), show j - dp = i by omega]
  · rw [if_neg y]
    by_cases q : dp ≤ j ∧ j < dp + i
    · rw [if_pos q, if_pos (by omega)]
    · rw [if_neg q, if_neg (by omega)]
theorem cpG_s0 : (fun j => if j = i then h i else cpG g h 0 i j) = cpG g h 0 (i + 1) := by
  have := cpG_s (g := g) (h := h) (dp := 0) (i := i)
  rw [Nat.zero_add] at this
  exact this
theorem cpG_i {j : Nat} (h1 : dp ≤ j) (h2 : j < dp + i) : cpG g h dp i j = h (j - dp) := if_pos ⟨h1, h2⟩
theorem cpG_o {j : Nat} (h1 : ¬ (dp ≤ j ∧ j < dp + i)) : cpG g h dp i j = g j := if_neg h1
theorem HM_ag (h : HM μ z ct V) (g : Ag z μ ν P) (h1 : ¬ P (z + 588)) (h2 : mI ν 326 (z + 584) = mI μ 326 (z + 584)) : HM ν z ct V :=
  ⟨h2.trans h.1, fun k hk q hq => (g.A h1).trans (h.2 k hk q hq)⟩
theorem s_b53 {Q : Int32 → mmT → Prop} (hT : ST ρ z) (hk : mI ρ 326 (z + 584) = nI kp) (k1 : 1 ≤ kp) (k8 : kp ≤ 8) (hq : Q x (AT ρ (z + 588) (cpG (mA ρ (z + 588)) (mA ρ (z + 586)) (258 * (kp - 1)) 258))) : w_X11_changed_b53 G (z + 584) Q x ρ := by
  unfold w_X11_changed_b53
  refine (lpE (W := fun n i => w_X11_changed_l55 G (z + 584) Q n x (nI i) (AT ρ (z + 588) (cpG (mA ρ (z + 588)) (mA ρ (z + 586)) (258 * (kp - 1)) i))) (N := 258) ?_ (Nat.zero_le _)).imp fun n hn => ?_
  · intro n i hi ih
    show w_X11_changed_b55 G (z + 584) Q _ x (nI i) _
    unfold w_X11_changed_b55
    have e : mI (AT ρ (z + 588) (cpG (mA ρ (z + 588)) (mA ρ (z + 586)) (258 * (kp - 1)) i)) 326 (z + 584) = nI kp := hk
    rw [e, pk_sub k1, pk_mul, nI_add]
    refine pk_le 258 i (fun cc => ?_) (fun cc => ⟨hT.km, z + 586, hT.fr.1, hT.fr.2.1, ?_, z + 588, hT.hi.1, hT.hi.2.1, ?_, ?_⟩)
    · have : i = 258 := by omega
      subst this
      exact hq
    · show vp_in _ (mN ρ (z + 586))
      rw [hT.fr.2.2]
      exact vp_in_nI cc (by omega)
    · show vp_in _ (mN ρ (z + 588))
      rw [hT.hi.2.2]
      exact vp_in_nI (by omega) (by omega)
    · rw [cl (by omega), cl (by omega), AT_Ao (by omega), AT_sA, cpG_s, nI_add]
      exact ih cc
  · rw [cpG_0, AT_self] at hn
    exact hn
theorem s_X11_changed {Q : Int32 → mmT → Prop} (hT : ST μ z) (hM : HM μ z ct V) (h8 : ct ≤ 8) (hf : ∀ q, q < 258 → mA μ (z + 586) q = nI (v0 q)) (hq : ∀ ν, Ag z μ ν (fun b => b = z + 584 ∨ b = z + 588) → (∀ F, F ≠ 326 → mI ν F (z + 584) = mI μ F (z + 584)) → HM ν z (ctP ct) (vP ct V v0) → Q x ν) : w_X11_changed G μ (z + 584) x Q := by
  unfold w_X11_changed
  obtain ⟨e, hr⟩ := hM
  rw [e]
  refine ⟨hT.km, fun c => ?_, fun c => ?_⟩
  · have c8 : ct ≠ 8 := fun q => c (by rw [q])
    have g1 : Ag z μ (sI μ 326 (z + 584) (nI ct + nI 1)) (fun b => b = z + 584) := Ag_sI
    have e1 : mI (sI μ 326 (z + 584) (nI ct + nI 1)) 326 (z + 584) = nI (ct + 1) := sI_e.trans (nI_add ct 1)
    refine s_b53 (hT.ag g1) e1 (by omega) (by omega) ?_
    refine hq _ (g1.tr Ag_AT) (fun F hF => sI_o (by omega)) ⟨(AT_I.trans e1).trans (by unfold ctP; rw [if_neg c8]), fun k hk q hq => ?_⟩
    unfold ctP at hk
    rw [if_neg c8] at hk
    unfold vP
    rw [if_neg c8, AT_A, Nat.add_sub_cancel]
    by_cases y : k = ct
    · rw [if_pos y, cpG_i (by omega) (by omega), show 258 * k + q - 258 * ct = q by omega]
      exact hf q hq
    · rw [if_neg y, cpG_o (by omega)]
      exact hr k (by omega) q hq
  · have c8 : ct = 8 := (nI_eq (by omega) (by omega)).mp c
    refine (lpE (W := fun n i => w_X11_changed_l11 G (z + 584) Q n x (nI i) (AT μ (z + 588) (cpG (mA μ (z + 588)) (fun j => mA μ (z + 588) (j + 258)) 0 i))) (N := 1806) ?_ (Nat.zero_le _)).imp fun n hn => ?_
    · intro n i hi ih
      show w_X11_changed_b11 G (z + 584) Q _ x (nI i) _
      unfold w_X11_changed_b11
      refine pk_le 1806 i (fun cc => ?_) (fun cc => ⟨hT.km, z + 588, hT.hi.1, hT.hi.2.1, ?_, ?_, ?_⟩)
      · have : i = 1806 := by omega
        subst this
        have g1 : Ag z μ (AT μ (z + 588) (cpG (mA μ (z + 588)) (fun j => mA μ (z + 588) (j + 258)) 0 1806)) (fun b => b = z + 588) := Ag_AT
        refine s_b53 (kp := 8) (hT.ag g1) ((AT_I.trans e).trans (by rw [c8])) (by omega) (by omega) ?_
        refine hq _ ((g1.tr Ag_AT).up (fun b hb => by omega)) (fun F hF => rfl) ⟨((AT_I.trans AT_I).trans e).trans (by unfold ctP; rw [if_pos c8, c8]), fun k hk q hq => ?_⟩
        unfold ctP at hk
        rw [if_pos c8] at hk
        unfold vP
        rw [if_pos c8, AT_A]
        by_cases y : k = 7
        · rw [if_pos y, cpG_i (by omega) (by omega), show 258 * k + q - 258 * (8 - 1) = q by omega, AT_Ao (by omega)]
          exact hf q hq
        · rw [if_neg y, cpG_o (by omega), AT_A, cpG_i (by omega) (by omega), show 258 * k + q - 0 + 258 = 258 * (k + 1) + q by omega]
          exact hr (k + 1) (by omega) q hq
      · show vp_in _ (mN μ (z + 588))
        rw [hT.hi.2.2, nI_add]
        exact vp_in_nI (by omega) (by omega)
      · show vp_in _ (mN μ (z + 588))
        rw [hT.hi.2.2]
        exact vp_in_nI (by omega) (by omega)
      · rw [nI_add, nI_add, cl (by omega), cl (by omega), AT_A, AT_sA, cpG_o (by omega)]
        have := ih cc
        rw [← cpG_s0] at this
        exact this
    · rw [cpG_0, AT_self] at hn
      exact hn
theorem s_X11_ends {Q : Int32 → mmT → Prop} (hT : ST μ z) (hM : HM μ z ct V) (h8 : ct ≤ 8) (hf : ∀ q, q < 258 → mA μ (z + 586) q = nI (v0 q)) (hx : mI μ 335 (z + 584) = x) (hq : ∀ ν, Ag z μ ν (fun b => b = z + 584 ∨ b = z + 588) → (∀ F, F ≠ 326 → mI ν F (z + 584) = mI μ F (z + 584)) → HM ν z (ctP ct) (vP ct V v0) → Q x ν) : w_X11_ends G μ (z + 584) (nI 0) Q := by
  unfold w_X11_ends w_X11_ends_b20
  refine ⟨fun c => absurd rfl c, fun _ => ⟨hT.km, ?_⟩⟩
  rw [hx]
  exact s_X11_changed hT hM h8 hf hq
theorem s_X11_endsF {Q : Int32 → mmT → Prop} {k : Nat} (hT : ST μ z) (hk : 0 < k ∧ k < 9) (hq : Q (nI 0) (sI μ 320 (z + 584) (nI k))) : w_X11_ends G μ (z + 584) (nI k) Q := by
  unfold w_X11_ends w_X11_ends_b20 w_X11_fails
  exact ⟨fun _ => ⟨hT.km, hT.km, hq⟩, fun c => absurd c (nI_ne0 hk.1 (by omega))⟩
end MHIST

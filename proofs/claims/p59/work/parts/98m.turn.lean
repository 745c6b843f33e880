/-! WHAT HOLDS BETWEEN TWO CALLS; THE CHANGES, AS THE LAW CALLS THEM -/
/-- below the law's own array and at it: kinds, lengths and longs stay -/
def Kp (z : Nat) (μ ρ : mmT) : Prop := ∀ b, b < z + 585 → mK ρ b = mK μ b ∧ mN ρ b = mN μ b ∧ ∀ i, mL ρ b i = mL μ b i
def Iv (μ : mmT) (z B c : Nat) (v : Nat → Nat) (ct : Nat) (V : Nat → Nat → Nat) : Prop := ST μ z ∧ ICv μ z v ct V ∧ JV B c v ct V ∧ ∃ R, ICr μ z R ∧ JR B c R
section TURNC
variable {G : mgT} {μ ν ρ σ : mmT} {z a b c c2 m i F nx ct t o L : Nat} {S S2 : cT} {v w v0 : Nat → Nat} {V : Nat → Nat → Nat} {R : rT} {P P2 : Nat → Prop} {B B2 N : Nat} {x z1 z2 : Int32} {Q : Int32 → mmT → Prop}
theorem Kp_rf : Kp z μ μ := fun _ _ => ⟨rfl, rfl, fun _ => rfl⟩
theorem Kp.tr (h : Kp z μ ν) (h2 : Kp z ν ρ) : Kp z μ ρ := fun b hb => ⟨(h2 b hb).1.trans (h b hb).1, (h2 b hb).2.1.trans (h b hb).2.1, fun i => ((h2 b hb).2.2 i).trans ((h b hb).2.2 i)⟩
theorem Ag.kp (g : Ag z μ ν P) : Kp z μ ν := fun b _ => ⟨by rw [g.k], by rw [g.n], fun i => by rw [g.L]⟩
theorem Ap.kp (g : Ap z μ ν P) : Kp z μ ν := fun b _ => ⟨by rw [g.1.1], by rw [g.1.2.1], fun i => by rw [g.1.2.2.2.2.1]⟩
theorem Iv.mono (h : Iv μ z B c v ct V) (h1 : B ≤ B2) (h2 : c ≤ c2) : Iv μ z B2 c2 v ct V := ⟨h.1, h.2.1, JV_mono h.2.2.1 h1 h2, h.2.2.2.imp fun _ q => ⟨q.1, JR_mono q.2 h1 h2⟩⟩
theorem Iv.lim (h : Iv μ z B c v ct V) : Lim v := h.2.2.1.1.1.1.1
theorem ICr_Pc (hR : ICr μ z R) (g : Ag z μ ν (Pc z)) : ICr ν z R := ICr_ag hR g (fun b hb q => by rcases q with q | q <;> omega)
/-- a change done, refused -/
abbrev TD (Q : Int32 → mmT → Prop) (μ : mmT) (z B c : Nat) (v : Nat → Nat) (ct : Nat) (V : Nat → Nat → Nat) : Prop := ∀ ρ r w, r < 2 ^ 31 → Kp z μ ρ → Iv ρ z (B + 20000) (c + 12) w (ctP ct) (vP ct V v) → Q (nI r) ρ
abbrev TF2 (Q : Int32 → mmT → Prop) (μ : mmT) (z B c : Nat) (v : Nat → Nat) (ct : Nat) (V : Nat → Nat → Nat) : Prop := ∀ ρ (e : Int32), (e = -75 ∨ e = -77 ∨ e = -78 ∨ e = -79) → Kp z μ ρ → Iv ρ z (B + 20000) (c + 12) v ct V → Q e ρ
theorem turnC {X : String → mmT → Prop} {W8 : mgT → mmT → Nat → (Int32 → mmT → Prop) → Prop} {ec : List Int32} (hO : OpC B c v W8 ec) (h : Iv μ z B c v ct V) (hD : TD Q μ z B c v ct V)
    (hX : ∀ e, e ∈ ec → ∃ E, (∀ ρ, X E ρ → w_X10_settle G ρ z e Q X) ∧ (∀ ρ, Kp z μ ρ → Iv ρ z (B + 20000) (c + 12) v ct V → X E ρ)) :
    mK μ z = 10 ∧ ∃ a2, mR μ 289 z = some a2 ∧ (mK μ a2 = 8 ∧ w_X8_copyFrom G μ a2 (mR μ 288 z) (fun μ5 => mK μ5 z = 10 ∧ ∃ a7, mR μ5 288 z = some a7 ∧ (mK μ5 a7 = 8 ∧ W8 G μ5 a7 (fun u10 μ11 => mK μ11 z = 10 ∧ w_X10_settle G μ11 z u10 Q X)))) := by
  obtain ⟨hT, hI, hV, R, hR, hJ⟩ := h
  have l := hV.1.1.1.1
  rcases hO with ⟨r, w, hr, hw, h8⟩ | ⟨e, he, h8⟩
  · exact t_opD hr h8 hT hI l (fun ρ g iv => hD ρ r w hr g.kp ⟨hT.ag g, iv, JV_push (B2 := B + 20000) (c2 := c + 12) hV (by omega) (by omega) (JB_mono hw (by omega) (by omega)), R, ICr_Pc hR g, JR_mono hJ (by omega) (by omega)⟩)
  · obtain ⟨E, h1, h2⟩ := hX e he
    exact t_opF h1 h8 hT hI l (fun ρ g iv => h2 ρ g.kp ⟨hT.ag g, iv, JV_mono hV (by omega) (by omega), R, ICr_Pc hR g, JR_mono hJ (by omega) (by omega)⟩)
theorem l_addNest (h : Iv μ z B c v ct V) (hb : Bo B) (hD : TD Q μ z B c v ct V) (hF : TF2 Q μ z B c v ct V) : w_L_addNest G μ (some z) z1 z2 Q := by
  unfold w_L_addNest w_X10_addNest
  refine ⟨z, rfl, h.1.kz, turnC (o_open h.2.2.1.1 hb) h hD (fun e he => ?_)⟩
  simp only [List.mem_cons, List.not_mem_nil, or_false] at he
  rcases he with rfl | rfl
  · exact ⟨_, fun ρ q => t_settle_1 q, fun ρ k i => Or.inl ⟨rfl, hF ρ _ (by decide) k i⟩⟩
  · exact ⟨_, fun ρ q => t_settle_2 q, fun ρ k i => Or.inr ⟨rfl, hF ρ _ (by decide) k i⟩⟩
theorem l_addCrow (h : Iv μ z B c v ct V) (hb : Bo B) (hD : TD Q μ z B c v ct V) (hF : TF2 Q μ z B c v ct V) : w_L_addCrow G μ (some z) Q := by
  unfold w_L_addCrow w_X10_addCrow
  refine ⟨z, rfl, h.1.kz, turnC (o_hire h.2.2.1.1 hb) h hD (fun e he => ?_)⟩
  simp only [List.mem_cons, List.not_mem_nil, or_false] at he
  subst he
  exact ⟨_, fun ρ q => t_settle_2 q, fun ρ k i => ⟨rfl, hF ρ _ (by decide) k i⟩⟩
theorem l_publish (h : Iv μ z B c v ct V) (hb : Bo B) (hD : TD Q μ z B c v ct V) (hF : TF2 Q μ z B c v ct V) : w_L_publish G μ (some z) z1 z2 Q := by
  unfold w_L_publish w_X10_publish
  refine ⟨z, rfl, h.1.kz, turnC (o_post h.2.2.1.1 hb) h hD (fun e he => ?_)⟩
  simp only [List.mem_cons, List.not_mem_nil, or_false] at he
  rcases he with rfl | rfl | rfl
  · exact ⟨_, fun ρ q => t_settle_3 q, fun ρ k i => Or.inl ⟨rfl, hF ρ _ (by decide) k i⟩⟩
  · exact ⟨_, fun ρ q => t_settle_1 q, fun ρ k i => Or.inr (Or.inl ⟨rfl, hF ρ _ (by decide) k i⟩)⟩
  · exact ⟨_, fun ρ q => t_settle_2 q, fun ρ k i => Or.inr (Or.inr ⟨rfl, hF ρ _ (by decide) k i⟩)⟩
theorem l_read (h : Iv μ z B c v ct V) (hb : Bo B) (hD : TD Q μ z B c v ct V) (hF : TF2 Q μ z B c v ct V) : w_L_read G μ (some z) x Q := by
  unfold w_L_read w_X10_read
  refine ⟨z, rfl, h.1.kz, turnC (o_read h.2.2.1.1 hb) h hD (fun e he => ?_)⟩
  simp only [List.mem_cons, List.not_mem_nil, or_false] at he
  rcases he with rfl | rfl
  · exact ⟨_, fun ρ q => t_settle_3 q, fun ρ k i => Or.inl ⟨rfl, hF ρ _ (by decide) k i⟩⟩
  · exact ⟨_, fun ρ q => t_settle_4 q, fun ρ k i => Or.inr ⟨rfl, hF ρ _ (by decide) k i⟩⟩
theorem l_cancel (h : Iv μ z B c v ct V) (hb : Bo B) (hD : TD Q μ z B c v ct V) (hF : TF2 Q μ z B c v ct V) : w_L_cancel G μ (some z) x Q := by
  unfold w_L_cancel w_X10_cancel
  refine ⟨z, rfl, h.1.kz, turnC (o_cancel h.2.2.1.1 hb) h hD (fun e he => ?_)⟩
  simp only [List.mem_cons, List.not_mem_nil, or_false] at he
  rcases he with rfl | rfl
  · exact ⟨_, fun ρ q => t_settle_4 q, fun ρ k i => Or.inl ⟨rfl, hF ρ _ (by decide) k i⟩⟩
  · exact ⟨_, fun ρ q => t_settle_2 q, fun ρ k i => Or.inr ⟨rfl, hF ρ _ (by decide) k i⟩⟩
theorem l_setWind (h : Iv μ z B c v ct V) (hb : Bo B) (hD : TD Q μ z B c v ct V) (hF : TF2 Q μ z B c v ct V) : w_L_setWind G μ (some z) x Q := by
  unfold w_L_setWind w_X10_setWind
  refine ⟨z, rfl, h.1.kz, turnC (o_wind h.2.2.1.1 hb) h hD (fun e he => ?_)⟩
  simp only [List.mem_cons, List.not_mem_nil, or_false] at he
  subst he
  exact ⟨_, fun ρ q => t_settle_1 q, fun ρ k i => ⟨rfl, hF ρ _ (by decide) k i⟩⟩
theorem l_forget (h : Iv μ z B c v ct V) (hb : Bo B) (hD : TD Q μ z B c v ct V) (hF : TF2 Q μ z B c v ct V) : w_L_forget G μ (some z) x Q := by
  unfold w_L_forget w_X10_forget
  refine ⟨z, rfl, h.1.kz, turnC (o_forget h.2.2.1.1 hb) h hD (fun e he => ?_)⟩
  simp only [List.mem_cons, List.not_mem_nil, or_false] at he
  subst he
  exact ⟨_, fun ρ q => t_settle_3 q, fun ρ k i => ⟨rfl, hF ρ _ (by decide) k i⟩⟩
/-- minutes: what they answer and leave -/
theorem l_advance {k : Nat} (h : Iv μ z B c v ct V) (hb : Bo B) (hk : k ≤ 100) (hD : 1 ≤ k → ∀ ρ, Kp z μ ρ → Iv ρ z (B + 20000) (c + 12) (itm k v) (ctP ct) (vP ct V v) → Q (nI (itm k v 6 - v 6)) ρ) (hF : k = 0 → TF2 Q μ z B c v ct V) : w_L_advance G μ (some z) (nI k) Q := by
  have hJ := h.2.2.1.1
  unfold w_L_advance w_X10_advance
  obtain ⟨hT, hI, hV, R, hR, hJ2⟩ := h
  by_cases k1 : 1 ≤ k
  · have hj := J_itm k B v hb.1 (by omega) hJ.1
    have h6 := v6_itm k v
    have hB := hj.2.2 6
    refine ⟨z, rfl, hT.kz, t_opD (v := v) (w := itm k v) (r := itm k v 6 - v 6) (W := fun G μ a Q => w_X8_pass G μ a (nI k) Q) (by omega) (fun G μ a S Q hs hr hq => t_pass hs hb.1 hb.2 hr hJ.1 (fun n2 _ _ e S' r' => ?_) (fun q => absurd rfl (q k k1 hk))) hT hI hJ.1.1.1 (fun ρ g iv => hD k1 ρ g.kp ⟨hT.ag g, iv, JV_push (B2 := B + 20000) (c2 := c + 12) hV (by omega) (by omega) (JB_mono (JB_itm hJ hb hk) (by omega) (by omega)), R, ICr_Pc hR g, JR_mono hJ2 (by omega) (by omega)⟩)⟩
    obtain rfl := nI_inj (by omega) (by omega) e
    rw [pk_sub h6]
    exact hq S' r'
  · have k0 : k = 0 := by omega
    subst k0
    refine ⟨z, rfl, hT.kz, t_opF (e := -1) (E := "java/lang/IllegalArgumentException") (W := fun G μ a Q => w_X8_pass G μ a (nI 0) Q) (fun ρ q => t_settle_1 q) (fun G μ a S Q hs hr hq => t_pass hs hb.1 hb.2 hr hJ.1 (fun n2 a1 a2 e S' z => ?_) (fun _ => hq)) hT hI hJ.1.1.1 (fun ρ g iv => ⟨rfl, hF rfl ρ _ (by decide) g.kp ⟨hT.ag g, iv, JV_mono hV (by omega) (by omega), R, ICr_Pc hR g, JR_mono hJ2 (by omega) (by omega)⟩⟩)⟩
    have := nI_inj (by omega) (by omega) e
    omega
end TURNC

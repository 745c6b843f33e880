/-! MEANS, RATES, WHAT IS FORESEEN, TAKING BACK, SAVING, DRAWN NUMBERS -/
/-- what is told of a message -/
def tld (v : Nat → Nat) (x : Int32) : Int32 := if fPl v x < v 2 then (if v (146 + 7 * fPl v x + 4) = 100 then -79 else if fUD x 100 1 v = 0 then -79 else nI (fUD x 100 1 v)) else -75
def stx (v : Nat → Nat) (x : Int32) : Int32 := if fPl v x < v 2 then nI (v (146 + 7 * fPl v x + 4)) else -75
def npx (v : Nat → Nat) (x : Int32) : Int32 := if fPl v x < v 2 then (if v (146 + 7 * fPl v x + 4) = 110 then nI (v (146 + 7 * fPl v x + 5)) else -79) else -75
def Iw (μ : mmT) (z B c : Nat) (v : Nat → Nat) (ct : Nat) (V : Nat → Nat → Nat) (R : rT) : Prop := ST μ z ∧ ICv μ z v ct V ∧ JV B c v ct V ∧ ICr μ z R ∧ JR B c R
section ASK2
variable {G : mgT} {μ ν ρ : mmT} {z a b c m i F n k p ct : Nat} {S S2 : cT} {v w : Nat → Nat} {B : Nat} {x y : Int32} {V : Nat → Nat → Nat} {R : rT}
theorem a_mean {Q : UInt64 → Prop} (h : Ak μ z B v) (h0 : v 2 = 0 → Q 13858279740860792832) (h1 : v 2 ≠ 0 → Q (FP.ddiv (FP.i2d (nI (sAt v))) (FP.i2d (nI (v 2))))) : w_L_meanAttempts G μ (some z) Q := by
  have h9 := h
  obtain ⟨hT, hs, hJ, hb⟩ := h9
  have b2 := hJ.1.2.2 2
  unfold w_L_meanAttempts w_X10_meanAttempts
  refine ⟨z, rfl, hT.kz, hT.kz, _, hT.z1, hT.s1.1, ?_⟩
  rw [st_230 hs]
  refine ⟨fun cc => ?_, fun cc => ⟨rfl, h0 (nI_inj (by omega) (by decide) cc)⟩⟩
  have n0 : v 2 ≠ 0 := fun e => cc (by rw [e]; rfl)
  exact t_meanOf hT hs hJ.1 (by omega) (h1 n0)
theorem a_meanBits {Q : Int64 → Prop} (h : Ak μ z B v) (h0 : v 2 = 0 → Q (-74)) (h1 : v 2 ≠ 0 → Q (FP.ddiv (FP.i2d (nI (sAt v))) (FP.i2d (nI (v 2)))).toInt64) : w_L_meanAttemptsBits G μ (some z) Q := by
  have h9 := h
  obtain ⟨hT, hs, hJ, hb⟩ := h9
  have b2 := hJ.1.2.2 2
  have s8 := sAt_le hJ.1
  unfold w_L_meanAttemptsBits w_X10_meanAttemptsBits
  refine ⟨z, rfl, hT.kz, hT.kz, _, hT.z1, hT.s1.1, ?_⟩
  rw [st_230 hs]
  refine ⟨fun cc => ?_, fun cc => ⟨rfl, h0 (nI_inj (by omega) (by decide) cc)⟩⟩
  have n0 : v 2 ≠ 0 := fun e => cc (by rw [e]; rfl)
  exact t_meanOf hT hs hJ.1 (by omega) ((meanF (by omega) (by omega) (by omega)).2.2 G μ _ (h1 n0))
theorem a_rate {Q : UInt32 → Prop} (h : Ak μ z B v) (h0 : v 10 = 0 → Q 3264479232) (h1 : v 10 ≠ 0 → Q (FP.fdiv (FP.i2f (nI (v 6))) (FP.i2f (nI (v 10))))) : w_L_deliveryRate G μ (some z) Q := by
  have h9 := h
  obtain ⟨hT, hs, hJ, hb⟩ := h9
  have b6 := hJ.1.2.2 6
  have b10 := hJ.1.2.2 10
  unfold w_L_deliveryRate w_X10_deliveryRate
  refine ⟨z, rfl, hT.kz, hT.kz, _, hT.z1, hT.s1.1, _, hT.s1.2.1.2.2.2, hT.s1.2.2.1.2.2.2, ?_⟩
  rw [(st_257 hs).2]
  refine ⟨fun cc => ?_, fun cc => ⟨rfl, h0 (nI_inj (by omega) (by decide) cc)⟩⟩
  have n0 : v 10 ≠ 0 := fun e => cc (by rw [e]; rfl)
  exact t_rate hT hs (by omega) (by omega) (by omega) (h1 n0)
theorem a_rateBits {Q : Int32 → Prop} (h : Ak μ z B v) (h0 : v 10 = 0 → Q (-74)) (h1 : v 10 ≠ 0 → Q (FP.fdiv (FP.i2f (nI (v 6))) (FP.i2f (nI (v 10)))).toInt32) : w_L_deliveryRateBits G μ (some z) Q := by
  have h9 := h
  obtain ⟨hT, hs, hJ, hb⟩ := h9
  have b6 := hJ.1.2.2 6
  have b10 := hJ.1.2.2 10
  unfold w_L_deliveryRateBits w_X10_deliveryRateBits
  refine ⟨z, rfl, hT.kz, hT.kz, _, hT.z1, hT.s1.1, _, hT.s1.2.1.2.2.2, hT.s1.2.2.1.2.2.2, ?_⟩
  rw [(st_257 hs).2]
  refine ⟨fun cc => ?_, fun cc => ⟨rfl, h0 (nI_inj (by omega) (by decide) cc)⟩⟩
  have n0 : v 10 ≠ 0 := fun e => cc (by rw [e]; rfl)
  have rf := rateF (s := v 6) (n := v 10) (by omega) (by omega) (by omega)
  exact t_rate hT hs (by omega) (by omega) (by omega) ⟨rf.2.2.1, rf.2.2.2.2 G μ _ (fun u e => by rw [e]; exact h1 n0)⟩
theorem a_statusX {Q : Int32 → Prop} (h : Ak μ z B v) (hq : Q (stx v x)) : w_L_status G μ (some z) x Q := by
  unfold stx at hq
  exact a_status h (fun q => by rwa [if_pos q] at hq) (fun q => by rwa [if_neg q] at hq)
theorem a_napX {Q : Int32 → Prop} (h : Ak μ z B v) (hq : Q (npx v x)) : w_L_napMinutes G μ (some z) x Q := by
  unfold npx at hq
  exact a_napMinutes h (fun q s => by rwa [if_pos q, if_pos s] at hq) (fun q s => by rwa [if_pos q, if_neg s] at hq) (fun q => by rwa [if_neg q] at hq)
theorem l_until {Q : Int32 → mmT → Prop} (h : Iv μ z B c v ct V) (hb : 119 ≤ B) (hb2 : B + 20000 < 2 ^ 26) (hq : ∀ ν, Kp z μ ν → Iv ν z B c v ct V → Q (tld v x) ν) : w_L_minutesUntilDelivered G μ (some z) x Q := by
  have h9 := h
  obtain ⟨hT, hI, hV, R, hR, hJ⟩ := h9
  unfold w_L_minutesUntilDelivered
  have key : ∀ ν, Ag z μ ν (fun b => z + 87 ≤ b ∧ b < z + 130) → ICv ν z v ct V → Q (tld v x) ν := fun ν g iv => hq ν g.kp ⟨hT.ag g, iv, hV, R, ICr_ag hR g (fun b hb q => by omega), hJ⟩
  have k0 := hq μ Kp_rf h
  unfold tld at key k0
  refine ⟨z, rfl, hT.kz, t_until hT hI hV.1.1 hb (by omega) (fun q s u ν g iv => ?_) (fun q s u ν g iv => Or.inr ⟨rfl, ?_⟩) (fun q s => Or.inr ⟨rfl, ?_⟩) (fun q => Or.inl ⟨rfl, ?_⟩)⟩
  · have := key ν g iv
    rwa [if_pos q, if_neg s, if_neg u] at this
  · have := key ν g iv
    rwa [if_pos q, if_neg s, if_pos u] at this
  · rwa [if_pos q, if_pos s] at k0
  · rwa [if_neg q] at k0
theorem Iw.iv (h : Iw μ z B c v ct V R) : Iv μ z B c v ct V := ⟨h.1, h.2.1, h.2.2.1, R, h.2.2.2⟩
theorem l_undo {Q : Int32 → mmT → Prop} (h : Iw μ z B c v ct V R) (h1 : 1 ≤ ct → ∀ ν, Kp z μ ν → Iw ν z B c (V (ct - 1)) (ct - 1) V R → Q (nI (ct - 1)) ν) (h0 : ct = 0 → Q (-75) μ) : w_L_undo G μ (some z) Q := by
  obtain ⟨hT, hI, hV, hR, hJ⟩ := h
  unfold w_L_undo
  have c8 := hV.2.1
  exact ⟨z, rfl, hT.kz, t_undo hT hI (fun k hk => (hV.2.2 k hk).1.1.1) c8 (fun c1 ν g iv => h1 c1 ν g.kp ⟨hT.ag g, iv, ⟨hV.2.2 _ (by omega), by omega, fun k hk => hV.2.2 k (by omega)⟩, ICr_Pc hR g, hJ⟩) (fun e => ⟨rfl, h0 e⟩)⟩
theorem l_save {Q : Int32 → mmT → Prop} (h : Iv μ z B c v ct V) (hq : ∀ ν R, rH R = 1 → rV R = v → Kp z μ ν → Iw ν z B c v ct V R → Q (nI (v 2)) ν) : w_X10_save G μ z Q := by
  obtain ⟨hT, hI, hV, R, hR, hJ⟩ := h
  refine t_save hT hI.1 hR.1.2.1 hV.1.1.1.1 (fun ν g e1 e2 e3 s => hq ν ((1, v), R.2) rfl rfl g.kp ⟨hT.ag g, ICv_ag hI g (fun b hb q => by omega), hV, ⟨⟨e1, s.f, fun _ => s⟩, ICt_ag (R := ((1, v), R.2)) hR.2.1 g (fun b hb q => by omega), ICe_ag (R := ((1, v), R.2)) hR.2.2.1 e2 e3, ICo_ag (R := ((1, v), R.2)) hR.2.2.2 g (fun b hb q => by omega)⟩, ⟨Nat.le_refl 1, fun _ => hV.1, hJ.2.2⟩⟩)
theorem l_restore {Q : Int32 → mmT → Prop} (h : Iw μ z B c v ct V R) (hr : rH R = 1) (hq : ∀ ν, Kp z μ ν → Iw ν z B c (rV R) 0 V R → Q (nI (rV R 2)) ν) : w_L_restore G μ (some z) Q := by
  obtain ⟨hT, hI, hV, hR, hJ⟩ := h
  unfold w_L_restore
  exact ⟨z, rfl, hT.kz, t_restore hT hI hR.1 hJ.1 (fun e => (hJ.2.1 e).1.1.1) (fun _ ν g iv => hq ν g.kp ⟨hT.ag g, iv, ⟨hJ.2.1 hr, Nat.zero_le _, fun k hk => absurd hk (Nat.not_lt_zero _)⟩, ICr_Pc hR g, hJ⟩) (fun e => by omega)⟩
/-! drawn numbers -/
theorem a_cell {Q : Int32 → Prop} (hN : gX G 6 < 2 ^ 31) (hk : k < 2 ^ 31) (hq : ∀ y, Q y) : w_L_cell G μ (nI k) Q :=
  pk_le (gX G 6) k (fun _ => hq _) (fun c => ⟨vp_in_nI c hN, hq _⟩)
theorem half (u : Int32) : ∃ m, m < 2 ^ 31 ∧ (u.toUInt32 >>> ((nI 1).toUInt32 &&& Int32.toUInt32 31)).toInt32 = nI m := by
  have e := pk_ushr u (nI 1) 1 (by decide)
  have l := u.toBitVec.isLt
  refine ⟨u.toBitVec.toNat / 2 ^ 1, by omega, Int32.toBitVec_inj.mp (BitVec.eq_of_toNat_eq ?_)⟩
  rw [e, pk_tn (by omega)]
theorem a_pick {Q : Int32 → Prop} (hN : gX G 6 < 2 ^ 31) (hk : k < 2 ^ 31) (h0 : 0 < n) (hn : n < 2 ^ 31) (hq : ∀ j, j < n → Q (nI j)) : w_L_pick G μ (nI k) (nI n) Q := by
  unfold w_L_pick
  refine a_cell hN hk (fun u => ⟨nI_ne0 h0 hn, ?_⟩)
  obtain ⟨m, hm, e⟩ := half u
  rw [e, pk_rem hm h0 hn]
  exact hq _ (Nat.mod_lt _ h0)
end ASK2

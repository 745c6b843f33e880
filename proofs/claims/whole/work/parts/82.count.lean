/-! COUNTS AND TOTALS -/
def CP (v : Nat → Nat) (W10 : mgT → mmT → Nat → (Int32 → Prop) → Prop) (W11 : mgT → mmT → Nat → (Int32 → mmT → Prop) → Prop) : Prop :=
  ∃ r, (∀ G μ z S Q, ST μ z → Rel S v 4 16 → Q r → W10 G (CT μ (z + 1) S) z Q) ∧ (∀ G μ m Q, MS μ m → Q r (VT (sI μ 320 m (nI 0)) m v) → W11 G (VT μ m v) m Q)
section COUNT
variable {G : mgT} {μ ν ρ : mmT} {z a b c m i j F n : Nat} {S S2 : cT} {v w : Nat → Nat} {B : Nat} {x y : Int32}
theorem s_total {Q : Int32 → mmT → Prop} (hm : MS μ m) (hj : j < 258) (h : Q (nI (v j)) (VT (sI μ 320 m (nI 0)) m v)) : w_X11_total G (VT μ m v) m (nI j) Q := by
  unfold w_X11_total
  rw [VT_sI]
  refine ⟨hm.1, rd_s (MS_sI hm) hj ?_⟩
  rw [cl (by omega), VT_A]
  exact h
theorem k_nestCount : CP v (fun G μ z Q => w_X10_nestCount G μ z Q) (fun G μ m Q => w_X11_nestCount G μ m Q) := by
  refine ⟨nI (v 0), fun G μ z S Q hT hr hq => ⟨hT.kz, _, hT.z1, hT.s1.1, ?_⟩, fun G μ m Q hm hq => s_total (G := G) (j := 0) hm (by decide) hq⟩
  rw [CT_I0, hr.1.1]
  exact hq
theorem k_crowCount : CP v (fun G μ z Q => w_X10_crowCount G μ z Q) (fun G μ m Q => w_X11_crowCount G μ m Q) := by
  refine ⟨nI (v 1), fun G μ z S Q hT hr hq => ⟨hT.kz, _, hT.z1, hT.s1.1, ?_⟩, fun G μ m Q hm hq => s_total (G := G) (j := 1) hm (by decide) hq⟩
  rw [CT_I0, hr.1.2.1]
  exact hq
theorem k_messageCount : CP v (fun G μ z Q => w_X10_messageCount G μ z Q) (fun G μ m Q => w_X11_messageCount G μ m Q) := by
  refine ⟨nI (v 2), fun G μ z S Q hT hr hq => ⟨hT.kz, _, hT.z1, hT.s1.1, ?_⟩, fun G μ m Q hm hq => s_total (G := G) (j := 2) hm (by decide) hq⟩
  rw [CT_I0, hr.1.2.2.1]
  exact hq
theorem k_time : CP v (fun G μ z Q => w_X10_time G μ z Q) (fun G μ m Q => w_X11_time G μ m Q) := by
  refine ⟨nI (v 4), fun G μ z S Q hT hr hq => ⟨hT.kz, _, hT.z1, hT.s1.1, ?_⟩, fun G μ m Q hm hq => ⟨hm.1, s_total (j := 4) hm (by decide) hq⟩⟩
  rw [CT_I0, hr.1.2.2.2.1]
  exact hq
theorem k_wind : CP v (fun G μ z Q => w_X10_wind G μ z Q) (fun G μ m Q => w_X11_wind G μ m Q) := by
  refine ⟨nI (v 5), fun G μ z S Q hT hr hq => ⟨hT.kz, _, hT.z1, hT.s1.1, ?_⟩, fun G μ m Q hm hq => ⟨hm.1, s_total (j := 5) hm (by decide) hq⟩⟩
  rw [CT_I0, hr.1.2.2.2.2]
  exact hq
theorem k_tot {W10 : mgT → mmT → Nat → (Int32 → Prop) → Prop} {W11 : mgT → mmT → Nat → (Int32 → mmT → Prop) → Prop} {F j : Nat} (hj : j < 258) (hF : ∀ S, Rel S v 4 16 → cF S F 4 = nI (v j))
    (h10 : ∀ G μ z Q, W10 G μ z Q = (mK μ z = 10 ∧ ∃ a2, mR μ 288 z = some a2 ∧ (mK μ a2 = 8 ∧ ∃ a5, mR μ 227 a2 = some a5 ∧ (mK μ a5 = 9 ∧ Q (mI μ F a5)))))
    (h11 : ∀ G μ m Q, W11 G μ m Q = (mK μ m = 11 ∧ w_X11_total G μ m (nI j) (fun u2 μ3 => Q u2 μ3))) : CP v (fun G μ z Q => W10 G μ z Q) (fun G μ m Q => W11 G μ m Q) := by
  refine ⟨nI (v j), fun G μ z S Q hT hr hq => ?_, fun G μ m Q hm hq => ?_⟩
  · show W10 _ _ _ _
    rw [h10]
    refine ⟨hT.kz, _, hT.z1, hT.s1.1, gt hT.s1 ?_⟩
    rw [CT_I (by decide), hF S hr]
    exact hq
  · show W11 _ _ _ _
    rw [h11]
    exact ⟨hm.1, s_total hm hj hq⟩
theorem k_publishedTotal : CP v (fun G μ z Q => w_X10_publishedTotal G μ z Q) (fun G μ m Q => w_X11_publishedTotal G μ m Q) := k_tot (F := 256) (j := 3) (by decide) (fun S r => r.2.1.1) (fun _ _ _ _ => rfl) (fun _ _ _ _ => rfl)
theorem k_deliveredTotal : CP v (fun G μ z Q => w_X10_deliveredTotal G μ z Q) (fun G μ m Q => w_X11_deliveredTotal G μ m Q) := k_tot (F := 257) (j := 6) (by decide) (fun S r => r.2.1.2.1) (fun _ _ _ _ => rfl) (fun _ _ _ _ => rfl)
theorem k_readTotal : CP v (fun G μ z Q => w_X10_readTotal G μ z Q) (fun G μ m Q => w_X11_readTotal G μ m Q) := k_tot (F := 258) (j := 7) (by decide) (fun S r => r.2.1.2.2.1) (fun _ _ _ _ => rfl) (fun _ _ _ _ => rfl)
theorem k_duplicateTotal : CP v (fun G μ z Q => w_X10_duplicateTotal G μ z Q) (fun G μ m Q => w_X11_duplicateTotal G μ m Q) := k_tot (F := 259) (j := 8) (by decide) (fun S r => r.2.1.2.2.2.1) (fun _ _ _ _ => rfl) (fun _ _ _ _ => rfl)
theorem k_failedTotal : CP v (fun G μ z Q => w_X10_failedTotal G μ z Q) (fun G μ m Q => w_X11_failedTotal G μ m Q) := k_tot (F := 260) (j := 9) (by decide) (fun S r => r.2.1.2.2.2.2.1) (fun _ _ _ _ => rfl) (fun _ _ _ _ => rfl)
theorem k_arrivalTotal : CP v (fun G μ z Q => w_X10_arrivalTotal G μ z Q) (fun G μ m Q => w_X11_arrivalTotal G μ m Q) := k_tot (F := 262) (j := 10) (by decide) (fun S r => r.2.1.2.2.2.2.2.2) (fun _ _ _ _ => rfl) (fun _ _ _ _ => rfl)
theorem k_messageCountByTotals (h : J B 16 v) : CP v (fun G μ z Q => w_X10_messageCountByTotals G μ z Q) (fun G μ m Q => w_X11_messageCountByTotals G μ m Q) := by
  have hT := h.2.1
  unfold tot at hT
  refine ⟨nI (v 2), fun G μ z S Q hT hr hq => ⟨hT.kz, _, hT.z1, hT.s1.1, _, hT.s1.r4, hT.s1.k4, t_existing hT.s1 hr h hq⟩, fun G μ m Q hm hq => ?_⟩
  show w_X11_messageCountByTotals G (VT μ m v) m Q
  unfold w_X11_messageCountByTotals
  rw [VT_sI]
  refine ⟨hm.1, rd_s (MS_sI hm) (by omega) ⟨vin_s (MS_sI hm) (by omega), vin_s (MS_sI hm) (by omega), vin_s (MS_sI hm) (by omega), vin_s (MS_sI hm) (by omega), ?_⟩⟩
  rw [cl (by omega), cl (by omega), cl (by omega), cl (by omega), cl (by omega), VT_A, VT_A, VT_A, VT_A, VT_A, pk_sub (by omega), pk_sub (by omega), pk_sub (by omega), pk_sub (by omega), show v 3 - v 7 - v 8 - v 9 - v 11 = v 2 by omega]
  exact hq
theorem k_isConsistent (h : J B 16 v) (hB : B < 2 ^ 30) : CP v (fun G μ z Q => w_X10_isConsistent G μ z Q) (fun G μ m Q => w_X11_isConsistent G μ m Q) :=
  ⟨nI 1, fun G μ z S Q hT hr hq => t_isConsistent hT hr h hB hq, fun G μ m Q hm hq => ⟨hm.1, hq⟩⟩
end COUNT

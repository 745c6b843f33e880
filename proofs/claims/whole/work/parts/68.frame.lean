/-! THE MODEL'S OTHER ARRAYS -/
def AT (μ : mmT) (b : Nat) (g : Nat → Int32) : mmT := (mK μ, mN μ, mI μ, mR μ, fun c i => if c = b then g i else mA μ c i, mB μ, mL μ, mD μ)
section FRAME
variable {G : mgT} {μ : mmT} {m b c i : Nat} {v : Nat → Nat} {g g2 : Nat → Int32}
theorem AT_A : mA (AT μ b g) b i = g i := if_pos rfl
theorem AT_Ao (h : c ≠ b) : mA (AT μ b g) c i = mA μ c i := if_neg h
theorem AT_sA {y : Int32} : sA (AT μ b g) b i y = AT μ b (fun j => if j = i then y else g j) := by
  refine mm_ext rfl rfl rfl rfl ?_ rfl rfl rfl
  funext c j
  show (if c = b ∧ j = i then y else if c = b then g j else mA μ c j) = if c = b then (if j = i then y else g j) else mA μ c j
  by_cases hc : c = b
  · by_cases hj : j = i
    · rw [if_pos ⟨hc, hj⟩, if_pos hc, if_pos hj]
    · rw [if_neg (fun z => hj z.2), if_pos hc, if_pos hc, if_neg hj]
  · rw [if_neg (fun z => hc z.1), if_neg hc, if_neg hc]
theorem AT_self : AT μ b (mA μ b) = μ := by
  refine mm_ext rfl rfl rfl rfl ?_ rfl rfl rfl
  funext c j
  show (if c = b then mA μ b j else mA μ c j) = mA μ c j
  by_cases hc : c = b
  · rw [if_pos hc, hc]
  · rw [if_neg hc]
theorem AT_c (h : ∀ j, g j = g2 j) : AT μ b g = AT μ b g2 := by rw [funext h]
/-- the frame takes the state as it is -/
theorem s_X11_remembersAll {Q : mmT → Prop} (hm : MS μ m) (hf : mR μ 322 m = some (m + 2) ∧ mK μ (m + 2) = 34 ∧ mN μ (m + 2) = 258) (h : ∀ g, (∀ k, k < 258 → g k = nI (v k)) → Q (VT (AT (sI μ 320 m (nI 0)) (m + 2) g) m v)) : w_X11_remembersAll G (VT μ m v) m Q := by
  unfold w_X11_remembersAll
  refine ⟨hm.1, ?_⟩
  rw [VT_sI]
  refine (lpE (W := fun n i => w_X11_remembersAll_l7 G m Q n (nI i) (VT (AT (sI μ 320 m (nI 0)) (m + 2) (fun k => if k < i then nI (v k) else mA μ (m + 2) k)) m v)) (N := 258) ?_ (Nat.zero_le _)).imp fun n hn => ?_
  · intro n i hi ih
    show w_X11_remembersAll_b7 G m Q _ (nI i) _
    unfold w_X11_remembersAll_b7
    refine pk_le 258 i (fun cc => h _ (fun k hk => if_pos (by omega))) (fun cc => ⟨hm.1, m + 1, hm.2.1, hm.2.2.1, ?_, m + 2, hf.1, hf.2.1, ?_, ?_⟩)
    · show vp_in _ (mN μ (m + 1))
      rw [hm.2.2.2]
      exact vp_in_nI cc (by omega)
    · show vp_in _ (mN μ (m + 2))
      rw [hf.2.2]
      exact vp_in_nI cc (by omega)
    · rw [cl (by omega), VT_A, VT_sAo (by omega), AT_sA, nI_add]
      have := ih cc
      rw [AT_c (fun j => ?_)] at this
      · exact this
      · by_cases y : j = i
        · rw [if_pos y, if_pos (by omega), y]
        · rw [if_neg y]
          by_cases z : j < i
          · rw [if_pos z, if_pos (by omega)]
          · rw [if_neg z, if_neg (by omega)]
  · have e : AT (sI μ 320 m (nI 0)) (m + 2) (fun k => if k < 0 then nI (v k) else mA μ (m + 2) k) = sI μ 320 m (nI 0) := by
      refine Eq.trans (AT_c (fun j => ?_)) AT_self
      rw [if_neg (Nat.not_lt_zero j)]
      rfl
    rw [e] at hn
    exact hn
end FRAME

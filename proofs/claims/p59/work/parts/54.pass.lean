section PASS
variable {G : mgT} {μ : mmT} {a m : Nat} {S : cT} {v w : Nat → Nat} {p n i d e t c b : Nat}
/-- minutes -/
def itm : Nat → (Nat → Nat) → Nat → Nat
  | 0, v => v
  | k + 1, v => itm k (fMinute v)
theorem J_itm : ∀ (k b : Nat) (v : Nat → Nat), 119 ≤ b → b + 13 * k < 2 ^ 26 → J b 16 v → J (b + 13 * k) 16 (itm k v)
  | 0, _, _, _, _, h => h
  | k + 1, b, v, hb, hb2, h => J_mono (J_itm k (b + 13) (fMinute v) (by omega) (by omega) (J_minute hb (by omega) h).1) (by omega)
theorem t_pass {Q : Int32 → mmT → Prop} {x : Int32} (hs : SS μ a) (hb : 119 ≤ b) (hb2 : b + 1300 < 2 ^ 26) (hr : Rel S v 4 16) (h : J b 16 v)
    (h1 : ∀ k, 1 ≤ k → k ≤ 100 → x = nI k → ∀ S', Rel S' (itm k v) 4 16 → Q (nI (itm k v 6) - nI (v 6)) (CT μ a S')) (h0 : (∀ k, 1 ≤ k → k ≤ 100 → x ≠ nI k) → Q (-1) (CT μ a S)) : w_X8_pass G (CT μ a S) a x Q := by
  unfold w_X8_pass w_X8_pass_b11
  refine ⟨fun c => h0 (fun k k1 k2 e => ?_), fun c => ⟨fun c2 => ⟨hs.k0, gt hs ?_⟩, fun c2 => h0 (fun k k1 k2 e => ?_)⟩⟩
  · rw [e] at c
    have := (nI_ltI (by omega) (by omega)).mp c
    omega
  · have ek : ∃ k, 1 ≤ k ∧ k ≤ 100 ∧ x = nI k := by
      rcases pk_ix x (n := 101) (by omega) with q | q | ⟨j, hj, q⟩
      · exact absurd (Int32.lt_trans q (nI_lt (a := 0) (by omega) (by omega))) c
      · have a1 := Int32.le_iff_toInt_le.mp q
        have a2 := Int32.le_iff_toInt_le.mp c2
        rw [nI_toInt (by omega)] at a1 a2
        omega
      · refine ⟨j, ?_, by omega, q⟩
        by_cases z : j < 1
        · rw [q] at c
          exact absurd ((nI_ltI (by omega) (by omega)).mpr z) c
        · omega
    obtain ⟨k, k1, k2, rfl⟩ := ek
    have e6 : cF S 257 4 = nI (v 6) := hr.2.1.2.1
    rw [CT_I (by decide), e6]
    have h1' := h1 k k1 k2 rfl
    clear h0 h1 c c2
    generalize hx : nI (v 6) = x6 at *
    clear hx e6
    refine (lpE (W := fun n i => ∀ S w b, 119 ≤ b → b + 13 * (k - i) < 2 ^ 26 → Rel S w 4 16 → J b 16 w → (∀ S', Rel S' (itm (k - i) w) 4 16 → Q (nI (itm (k - i) w 6) - x6) (CT μ a S')) → w_X8_pass_l23 G a Q n (nI k) x6 (nI i) (CT μ a S)) (N := k) ?_ (Nat.zero_le _)).imp fun n hn => hn S v b hb (by omega) hr h h1'
    intro n i hi ih S w b hb hb2 hr h hq
    show w_X8_pass_b23 G a Q _ (nI k) x6 (nI i) (CT μ a S)
    unfold w_X8_pass_b23
    refine pk_le k i (fun c => ⟨hs.k0, gt hs ?_⟩) (fun c => ⟨hs.k0, ?_⟩)
    · have e6 : cF S 257 4 = nI (w 6) := hr.2.1.2.1
      rw [CT_I (by decide), e6]
      rw [show k - i = 0 by omega] at hq
      exact hq S hr
    · rw [CT_I0, hr.1.2.2.2.1, nI_add, CT_sI0]
      refine t_minute hs hb (by omega) hr h (fun S' r => ?_)
      rw [nI_add]
      rw [show k - i = (k - (i + 1)) + 1 by omega] at hq
      exact ih c S' (fMinute w) (b + 13) (by omega) (by omega) r (J_minute hb (by omega) h).1 hq
  · rw [e] at c2
    exact c2 (nI_le (by omega) (by omega))
end PASS

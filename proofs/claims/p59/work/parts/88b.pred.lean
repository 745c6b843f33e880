/-! WHAT IS FORESEEN COMES TRUE -/
section PRED
variable {v w : Nat → Nat} {b y k q m r s : Nat} {x : Int32}
theorem ud_shift (k : Nat) : ∀ d s v, 1 ≤ s → fUD x d (s + k) v = (if fUD x d s v = 0 then 0 else fUD x d s v + k)
  | 0, _, _, _ => (if_pos rfl).symm
  | d + 1, s, v, hs => by
    unfold fUD
    split
    · split
      · rw [if_neg (by omega)]
      · have := ud_shift k d (s + 1) (fMinute v) (by omega)
        rw [show s + k + 1 = s + 1 + k by omega]
        exact this
    · rw [if_pos rfl]
theorem ud_more (e : Nat) : ∀ d s v, fUD x d s v ≠ 0 → fUD x (d + e) s v = fUD x d s v
  | 0, _, _, h => absurd rfl h
  | d + 1, s, v, h => by
    rw [show d + 1 + e = (d + e) + 1 by omega]
    unfold fUD at h ⊢
    split
    · rename_i c
      rw [if_pos c] at h
      split
      · rfl
      · rename_i c2
        rw [if_neg c2] at h
        exact ud_more e d (s + 1) (fMinute v) h
    · rfl
/-- at the minute that is told, it is delivered -/
theorem ud_done : ∀ d s v, fUD x d s v = r → r ≠ 0 → 1 ≤ s → s ≤ r ∧ fPl (itm (r - s + 1) v) x < itm (r - s + 1) v 2 ∧ itm (r - s + 1) v (146 + 7 * fPl (itm (r - s + 1) v) x + 4) = 100
  | 0, _, _, h, h0, _ => absurd h.symm h0
  | d + 1, s, v, h, h0, hs => by
    unfold fUD at h
    by_cases c : fPl (fMinute v) x < fMinute v 2
    · rw [if_pos c] at h
      by_cases c2 : fMinute v (146 + 7 * fPl (fMinute v) x + 4) = 100
      · rw [if_pos c2] at h
        subst h
        rw [Nat.sub_self]
        exact ⟨Nat.le_refl _, c, c2⟩
      · rw [if_neg c2] at h
        obtain ⟨h1, h2⟩ := ud_done d (s + 1) (fMinute v) h h0 (by omega)
        refine ⟨by omega, ?_⟩
        rw [show r - s + 1 = (r - (s + 1) + 1) + 1 by omega]
        exact h2
    · rw [if_neg c] at h
      exact absurd h.symm h0
/-- before it, it isn't, and the minutes told shrink -/
theorem ud_late : ∀ m d s v, fUD x d s v = r → r ≠ 0 → 1 ≤ s → s + m ≤ r → m ≤ d ∧ fUD x (d - m) (s + m) (itm m v) = r ∧ (1 ≤ m → fPl (itm m v) x < itm m v 2 ∧ itm m v (146 + 7 * fPl (itm m v) x + 4) ≠ 100)
  | 0, d, s, v, h, _, _, _ => ⟨Nat.zero_le _, h, fun z => absurd z (by decide)⟩
  | m + 1, 0, s, v, h, h0, _, _ => absurd h.symm h0
  | m + 1, d + 1, s, v, h, h0, hs, hm => by
    unfold fUD at h
    by_cases c : fPl (fMinute v) x < fMinute v 2
    · rw [if_pos c] at h
      by_cases c2 : fMinute v (146 + 7 * fPl (fMinute v) x + 4) = 100
      · rw [if_pos c2] at h
        omega
      · rw [if_neg c2] at h
        obtain ⟨h1, h2, h3⟩ := ud_late m d (s + 1) (fMinute v) h h0 (by omega) (by omega)
        refine ⟨by omega, ?_, fun _ => ?_⟩
        · rw [show d + 1 - (m + 1) = d - m by omega, show s + (m + 1) = s + 1 + m by omega]
          exact h2
        · by_cases z : 1 ≤ m
          · exact h3 z
          · obtain rfl : m = 0 := by omega
            exact ⟨c, c2⟩
    · rw [if_neg c] at h
      exact absurd h.symm h0
theorem told_late (h : fUD x 100 1 v = r) (h0 : r ≠ 0) (hm : m < r) (h1 : 1 ≤ m) : (fPl (itm m v) x < itm m v 2 ∧ itm m v (146 + 7 * fPl (itm m v) x + 4) ≠ 100) ∧ fUD x 100 1 (itm m v) = r - m := by
  obtain ⟨a, b, c⟩ := ud_late m 100 1 v h h0 (by decide) (by omega)
  refine ⟨c h1, ?_⟩
  have e := ud_shift (x := x) m (100 - m) 1 (itm m v) (by decide)
  rw [b] at e
  by_cases z : fUD x (100 - m) 1 (itm m v) = 0
  · rw [if_pos z] at e
    exact absurd e h0
  · rw [if_neg z] at e
    have e2 := ud_more (x := x) m (100 - m) 1 (itm m v) z
    rw [show 100 - m + m = 100 by omega] at e2
    omega
theorem told_done (hb : 119 ≤ b) (hb2 : b + 1300 < 2 ^ 26) (hJ : J b 16 v) (hy : y < 2 ^ 31) (h : fUD (nI y) 100 1 v = r) (h0 : r ≠ 0) (hm : r ≤ m) (hm2 : m ≤ 100) : Has (itm m v) y 100 := by
  obtain ⟨a, c, d⟩ := ud_done 100 1 v h h0 (by decide)
  rw [show r - 1 + 1 = r by omega] at c d
  have hj := J_itm r b v hb (by omega) hJ
  have hh : Has (itm r v) y 100 := ⟨_, c, by
    have e := fPl_yes c
    have hb3 := hj.2.2 (146 + 7 * fPl (itm r v) (nI y))
    exact ((nI_eq (by omega) hy).mp e), d⟩
  have := Has_itm (y := y) (m - r) (b + 13 * r) (itm r v) (by omega) (by omega) hj hh
  rw [← itm_add, show r + (m - r) = m by omega] at this
  exact this
end PRED

section OPS7
variable {G : mgT} {μ : mmT} {a m : Nat} {S : cT} {v w : Nat → Nat} {p n i d e t c b x y k : Nat}
def fShift (v : Nat → Nat) (n : Nat) : Nat → Nat := fun j => if 12 + 21 * n + 3 ≤ j ∧ j < 12 + 21 * n + 3 + (v (12 + 21 * n + 2) - 1) then v (j + 1) else if j = 12 + 21 * n + 3 + (v (12 + 21 * n + 2) - 1) then 0 else if j = 12 + 21 * n + 2 then v (12 + 21 * n + 2) - 1 else v j
theorem fS_o {j : Nat} (h8 : v (12 + 21 * n + 2) ≤ 8) (h1 : 1 ≤ v (12 + 21 * n + 2)) (h : j < 12 + 21 * n + 2 ∨ 12 + 21 * n + 11 ≤ j) : fShift v n j = v j := by
  unfold fShift
  rw [if_neg (by omega), if_neg (by omega), if_neg (by omega)]
theorem fS_z : fShift v n (12 + 21 * n + 2) = v (12 + 21 * n + 2) - 1 := by
  unfold fShift
  rw [if_neg (by omega), if_neg (by omega), if_pos rfl]
theorem fS_i (h : k < v (12 + 21 * n + 2) - 1) : fShift v n (12 + 21 * n + 3 + k) = v (12 + 21 * n + 3 + (k + 1)) := by
  unfold fShift
  rw [if_pos (by omega)]
  rfl
theorem Lim_shift (l : Lim v) (hn : n < v 0) (h1 : 1 ≤ v (12 + 21 * n + 2)) : Lim (fShift v n) := by
  have l0 := l.1
  have h8 := (l.2.1 n hn).1
  have o : ∀ j, j < 12 + 21 * n + 2 ∨ 12 + 21 * n + 11 ≤ j → fShift v n j = v j := fun j hj => fS_o h8 h1 hj
  refine ⟨?_, fun q hq => ?_, fun q hq => ?_⟩
  · rw [o 0 (by omega), o 1 (by omega), o 2 (by omega)]
    exact l0
  · rw [o 0 (by omega)] at hq
    have := l.2.1 q hq
    rw [o (12 + 21 * q + 11) (by omega), o (12 + 21 * q) (by omega), o (12 + 21 * q + 1) (by omega)]
    by_cases y : q = n
    · subst y
      rw [fS_z]
      omega
    · rw [o (12 + 21 * q + 2) (by omega)]
      exact this
  · rw [o 2 (by omega)] at hq
    rw [o 0 (by omega), o _ (by omega)]
    exact l.2.2 q hq
theorem Inv_shift (h : InvA v 16 0 0) (hn : n < v 0) (h1 : 1 ≤ v (12 + 21 * n + 2)) : InvA (fShift v n) 16 0 1 := by
  obtain ⟨l, a1, a2, a3, a4, a5, a6⟩ := h
  have l0 := l.1
  have h8 := (l.2.1 n hn).1
  have o : ∀ j, j < 12 + 21 * n + 2 ∨ 12 + 21 * n + 11 ≤ j → fShift v n j = v j := fun j hj => fS_o h8 h1 hj
  have D2 := o 2 (by omega)
  have D1 := o 1 (by omega)
  have D0 := o 0 (by omega)
  have es : ∀ x, cS (fShift v n) x = cS v x := fun x => by
    unfold cS
    rw [D2]
    exact cnt_c _ (fun q hq => by rw [o _ (by omega)])
  refine ⟨Lim_shift l hn h1, ⟨fun q hq => ?_, fun q r hqr hr => ?_⟩, fun q hq => ?_, ⟨fun c hc2 => ?_, fun c e hce he => ?_⟩, ⟨fun m k hm hk => ?_, fun m k j hm hkj hj => ?_⟩, ?_, ?_⟩
  · rw [D2] at hq
    rw [o _ (by omega), o 3 (by omega)]
    exact a1.1 q hq
  · rw [D2] at hr
    rw [o _ (by omega), o _ (by omega)]
    exact a1.2 q r hqr hr
  · rw [D2] at hq
    rw [o _ (by omega), o _ (by omega), o _ (by omega), o _ (by omega), o _ (by omega)]
    exact a2 q hq
  · rw [D1] at hc2
    rw [o _ (by omega), o _ (by omega)]
    intro z
    obtain ⟨r1, q, hq, e1, e2⟩ := a3.1 c hc2 z
    exact ⟨r1, q, by rw [D2]; exact hq, by rw [o _ (by omega)]; exact e1, by rw [o _ (by omega)]; exact e2⟩
  · rw [D1] at he
    rw [o _ (by omega), o _ (by omega)]
    exact a3.2 c e hce he
  · rw [D0] at hm
    by_cases y : m = n
    · subst y
      rw [fS_z] at hk
      rw [fS_i hk]
      obtain ⟨q, hq, e1, e2, e3⟩ := a4.1 m (k + 1) hm (by omega)
      exact ⟨q, by rw [D2]; exact hq, by rw [o _ (by omega)]; exact e1, by rw [o _ (by omega)]; exact e2, by rw [o _ (by omega)]; exact e3⟩
    · have := (l.2.1 m hm).1
      rw [o _ (by omega)] at hk
      rw [o (12 + 21 * m + 3 + k) (by omega)]
      obtain ⟨q, hq, e1, e2, e3⟩ := a4.1 m k hm hk
      exact ⟨q, by rw [D2]; exact hq, by rw [o _ (by omega)]; exact e1, by rw [o _ (by omega)]; exact e2, by rw [o _ (by omega)]; exact e3⟩
  · rw [D0] at hm
    by_cases y : m = n
    · subst y
      rw [fS_z] at hj
      rw [fS_i (by omega), fS_i hj]
      exact a4.2 m (k + 1) (j + 1) hm (by omega) (by omega)
    · have := (l.2.1 m hm).1
      rw [o _ (by omega)] at hj
      rw [o (12 + 21 * m + 3 + k) (by omega), o (12 + 21 * m + 3 + j) (by omega)]
      exact a4.2 m k j hm hkj hj
  · have ec : cC (fShift v n) = cC v := by
      unfold cC
      rw [D1]
      exact cnt_c _ (fun q hq => by rw [o _ (by omega)])
    rw [es, ec]
    exact a5
  · have en : sN (fShift v n) + 1 = sN v := by
      unfold sN
      rw [D0]
      have := su_1 (f := fun m => v (12 + 21 * m + 2)) (g := fun m => fShift v n (12 + 21 * m + 2)) (i := n) (x := v (12 + 21 * n + 2)) (y := v (12 + 21 * n + 2) - 1) rfl fS_z (v 0) hn (fun q hq hqn => by rw [o _ (by omega)])
      omega
    rw [es]
    omega
/-- the first of an inbox is a message that stands -/
theorem first_in (h : J b 16 v) (hb2 : b < 2 ^ 31) (hn : n < v 0) (h1 : 1 ≤ v (12 + 21 * n + 2)) : fPl v (nI (v (12 + 21 * n + 3))) < v 2 ∧ v (146 + 7 * fPl v (nI (v (12 + 21 * n + 3)))) = v (12 + 21 * n + 3) ∧ v (146 + 7 * fPl v (nI (v (12 + 21 * n + 3))) + 4) = 100 ∧ v (146 + 7 * fPl v (nI (v (12 + 21 * n + 3))) + 1) = n := by
  obtain ⟨hA, -, hB⟩ := h
  obtain ⟨q, hq, e1, e2, e3⟩ := hA.2.2.2.2.1.1 n 0 hn (by omega)
  rw [Nat.add_zero] at e1
  rw [← e1, fPl_id hA.2.1 hB hb2 hq]
  exact ⟨hq, rfl, e2, e3⟩
def fRead (v : Nat → Nat) (n : Nat) : Nat → Nat := fCeases (up (fShift v n) 7 (v 7 + 1)) (fPl v (nI (v (12 + 21 * n + 3))))
theorem J_read (h : J b 16 v) (hb2 : b < 2 ^ 31) (hn : n < v 0) (h1 : 1 ≤ v (12 + 21 * n + 2)) : J (b + 1) 16 (fRead v n) := by
  obtain ⟨f1, f2, f3, f4⟩ := first_in h hb2 hn h1
  obtain ⟨hA, hT, hB⟩ := h
  have l := hA.1
  have l0 := l.1
  have h8 := (l.2.1 n hn).1
  have o : ∀ j, j < 12 + 21 * n + 2 ∨ 12 + 21 * n + 11 ≤ j → fShift v n j = v j := fun j hj => fS_o h8 h1 hj
  have hI := Inv_shift hA hn h1
  have BS : Bd b (fShift v n) := fun j => by
    have b2 := hB (12 + 21 * n + 2)
    unfold fShift
    split
    · exact hB _
    · split
      · omega
      · split
        · omega
        · exact hB j
  unfold fRead
  generalize fPl v (nI (v (12 + 21 * n + 3))) = p at *
  have b7 := hB 7
  have hp : p < fShift v n 2 := by rw [o 2 (by omega)]; exact f1
  rw [fC_up (by omega) (by omega) hp]
  have A : InvA (fCeases (fShift v n) p) 16 0 0 := by
    refine InvA_ceases hI hp (Or.inr (by rw [o 2 (by omega)]; omega)) (fun c hc z => ?_) (fun m k hm hk z => ?_) (by rw [o _ (by omega), f3]; rfl) (by rw [o _ (by omega), f3]; rfl)
    · rw [o 1 (by omega)] at hc
      rw [o _ (by omega), o _ (by omega)] at z
      obtain ⟨-, q, hq, e1, e2⟩ := hA.2.2.2.1.1 c hc (by omega)
      have := ids_inj hA.2.1 hq f1 (by omega)
      subst this
      omega
    · rw [o 0 (by omega)] at hm
      rw [o (146 + 7 * p) (by omega), f2] at z
      by_cases y : m = n
      · subst y
        rw [fS_z] at hk
        rw [fS_i hk] at z
        exact hA.2.2.2.2.1.2 m 0 (k + 1) hm (by omega) (by omega) z.symm
      · have s8 := (l.2.1 m hm).1
        rw [o _ (by omega)] at hk
        rw [o _ (by omega)] at z
        obtain ⟨q, hq, e1, e2, e3⟩ := hA.2.2.2.2.1.1 m k hm hk
        have := ids_inj hA.2.1 hq f1 (e1.trans (z.trans f2.symm))
        subst this
        omega
  refine ⟨InvA_up A (by omega), ?_, Bd_up (Bd_mono (Bd_ceases BS) (by omega)) (by omega)⟩
  unfold tot at hT ⊢
  have c2 : fCeases (fShift v n) p 2 = fShift v n 2 - 1 := fC_2
  rw [up_n (show 2 ≠ 7 by omega), up_n (show 3 ≠ 7 by omega), up_n (show 8 ≠ 7 by omega), up_n (show 9 ≠ 7 by omega), up_n (show 11 ≠ 7 by omega), up_s, c2, fC_lo (show 3 < 146 by omega) (by omega), fC_lo (show 8 < 146 by omega) (by omega), fC_lo (show 9 < 146 by omega) (by omega), fC_lo (show 11 < 146 by omega) (by omega), o 2 (by omega), o 3 (by omega), o 8 (by omega), o 9 (by omega), o 11 (by omega)]
  omega
end OPS7

section ARR2
variable {G : mgT} {μ : mmT} {a b n : Nat} {S S' S2 : cT} {v w : Nat → Nat} {jc jm : Nat}
theorem Lim_learn {key : Nat} (l : Lim v) (hn : n < v 0) : Lim (fLearns v n key) := by
  have l0 := l.1.1
  obtain ⟨-, l8, -⟩ := l.2.1 n hn
  refine ⟨?_, fun m hm => ?_, fun q hq => ?_⟩
  · rw [fLearns_o (by omega) l8 (by omega), fLearns_o (by omega) l8 (by omega), fLearns_o (by omega) l8 (by omega)]
    exact l.1
  · rw [fLearns_o (by omega) l8 (by omega)] at hm
    have := l.2.1 m hm
    unfold fLearns
    by_cases c : v (12 + 21 * n + 11) = 8
    · rw [if_pos c]
      have e : ∀ d, d < 12 → (if 12 + 21 * n + 12 ≤ 12 + 21 * m + d ∧ 12 + 21 * m + d < 12 + 21 * n + 19 then v (12 + 21 * m + d + 1) else if 12 + 21 * m + d = 12 + 21 * n + 19 then key else v (12 + 21 * m + d)) = v (12 + 21 * m + d) := fun d hd => by rw [if_neg (by omega), if_neg (by omega)]
      have e0 : (if 12 + 21 * n + 12 ≤ 12 + 21 * m ∧ 12 + 21 * m < 12 + 21 * n + 19 then v (12 + 21 * m + 1) else if 12 + 21 * m = 12 + 21 * n + 19 then key else v (12 + 21 * m)) = v (12 + 21 * m) := by rw [if_neg (by omega), if_neg (by omega)]
      have e1 := e 1 (by decide)
      have e2 := e 2 (by decide)
      have e3 := e 11 (by decide)
      show (if _ then _ else _) ≤ 8 ∧ (if _ then _ else _) ≤ 8 ∧ 1 ≤ (if _ then _ else _) ∧ (if _ then _ else _) ≤ 9 ∧ (if _ then _ else _) ≤ 4
      rw [e0, e1, e2, e3]
      exact this
    · rw [if_neg c, up_n (show 12 + 21 * m + 2 ≠ 12 + 21 * n + 11 by omega), up_n (show 12 + 21 * m + 2 ≠ 12 + 21 * n + 12 + v (12 + 21 * n + 11) by omega), up_n (show 12 + 21 * m ≠ 12 + 21 * n + 11 by omega), up_n (show 12 + 21 * m ≠ 12 + 21 * n + 12 + v (12 + 21 * n + 11) by omega), up_n (show 12 + 21 * m + 1 ≠ 12 + 21 * n + 11 by omega), up_n (show 12 + 21 * m + 1 ≠ 12 + 21 * n + 12 + v (12 + 21 * n + 11) by omega)]
      by_cases q : m = n
      · subst q
        rw [up_s]
        omega
      · rw [up_n (show 12 + 21 * m + 11 ≠ 12 + 21 * n + 11 by omega), up_n (show 12 + 21 * m + 11 ≠ 12 + 21 * n + 12 + v (12 + 21 * n + 11) by omega)]
        exact this
  · rw [fLearns_o (by omega) l8 (by omega)] at hq
    rw [fLearns_o (by omega) l8 (by omega), fLearns_o (by omega) l8 (by omega)]
    exact l.2.2 q hq
theorem fD_lo {p j : Nat} (l : Lim w) (hp : p < w 2) (hn : n < w 0) (h8 : w (12 + 21 * n + 2) < 8) (h : j < 12 ∨ 138 ≤ j) : fDeliv w p n j = (if j = 6 then w 6 + 1 else if j = 146 + 7 * p + 4 then 100 else w j) := by
  have l0 := l.1.1
  obtain ⟨-, l8, -⟩ := l.2.1 n hn
  unfold fDeliv
  rw [fLearns_o (by omega) (by rw [up_n (by omega), up_n (by omega), up_n (by omega), up_n (by omega), up_n (by omega)]; exact l8) h, up_a]
  by_cases c : j = 6
  · rw [if_pos c, if_pos c]
  · rw [if_neg c, if_neg c, up_n (by omega), up_n (by omega), up_n (by omega), up_a]
theorem fD_mid {p j : Nat} (l : Lim w) (hp : p < w 2) (hn : n < w 0) (h8 : w (12 + 21 * n + 2) < 8) (h : 12 ≤ j) (h2 : j < 138) : fDeliv w p n j = fLearns (fInb w n (w (146 + 7 * p))) n (w (146 + 7 * p + 2)) j := by
  have l0 := l.1.1
  unfold fDeliv
  have k8 := ((Lim_Inb (id := w (146 + 7 * p)) l hn h8).2.1 n (by rw [fInb_o (fun d _ => by omega) h8]; exact hn)).2.1
  refine fLearns_ag (by omega) k8 (fun i h1 h3 => ?_) h h2
  unfold fInb
  simp only [up_a]
  rw [if_neg (show ¬ i = 6 by omega), if_neg (show ¬ i = 146 + 7 * p + 4 by omega)]
theorem Rel_deliv {p : Nat} (l : Lim w) (hp : p < w 2) (hn : n < w 0) (h8 : w (12 + 21 * n + 2) < 8) (h : Rel S w jc jm) (q1 : ∀ F k, ¬ (164 ≤ F ∧ F ≤ 166 ∧ k = 5 + 3 * n) → cF S2 F k = cF S F k) (q2 : cP S2 = cP S) (q3 : RelN S2 (fLearns (fInb w n (w (146 + 7 * p))) n (w (146 + 7 * p + 2)))) :
    Rel (fI (fI S2 132 (27 + cP S p) (nI 100)) 257 4 (nI (w 6 + 1))) (fDeliv w p n) jc jm := by
  obtain ⟨rS, rT, rN, rC, rM, rP, rZ⟩ := h
  have l0 := l.1.1
  have m := rM p hp
  have lo := fun j (z : j < 12 ∨ 138 ≤ j) => fD_lo (j := j) l hp hn h8 z
  have lo2 : ∀ j, (j < 12 ∨ 138 ≤ j) → j ≠ 6 → j ≠ 146 + 7 * p + 4 → fDeliv w p n j = w j := fun j z y x => by rw [lo j z, if_neg y, if_neg x]
  have eF : ∀ F k, F ≠ 257 → F ≠ 132 → ¬ (164 ≤ F ∧ F ≤ 166) → cF (fI (fI S2 132 (27 + cP S p) (nI 100)) 257 4 (nI (w 6 + 1))) F k = cF S F k := fun F k z y x => by rw [fI_o (Or.inl z), fI_o (Or.inl y), q1 F k (fun t => x ⟨t.1, t.2.1⟩)]
  refine ⟨RelS_c rS (fun j z y => lo2 j (by omega) (by omega) (by omega)) (fun F z y => eF _ _ (by omega) (by omega) (by omega)), ?_, ?_, ?_, ?_, ?_, ?_⟩
  · have rT2 : RelT S2 w := RelT_c rT (fun _ _ _ => rfl) (fun F z y => q1 _ _ (by omega))
    have rT3 : RelT (fI S2 132 (27 + cP S p) (nI 100)) w := RelT_c rT2 (fun _ _ _ => rfl) (fun F z y => fI_o (by omega))
    refine RelT_c (RelT_u (F := 257) (k := 6) (x := w 6 + 1) (Or.inr (Or.inl ⟨rfl, rfl⟩)) rT3) (fun j z y => ?_) (fun _ _ _ => rfl)
    rw [lo j (by omega), up_a]
    by_cases c : j = 6
    · rw [if_pos c, if_pos c]
    · rw [if_neg c, if_neg c, if_neg (by omega)]
  · refine RelN_c q3 (Lim_learn (Lim_Inb l hn h8) (by rw [fInb_o (fun d _ => by omega) h8]; exact hn)) ?_ (fun j z y => fD_mid l hp hn h8 z y) (fun F k z y => by rw [fI_o (by omega), fI_o (by omega)]) rfl
    have k8 := (Lim_Inb (id := w (146 + 7 * p)) l hn h8).2.1 n (by rw [fInb_o (fun d _ => by omega) h8]; exact hn)
    rw [lo2 0 (by omega) (by omega) (by omega), fLearns_o (by omega) k8.2.1 (by omega), fInb_o (fun d _ => by omega) h8]
  · exact RelC_c rC l.1.2.1 (lo2 _ (by omega) (by omega) (by omega)) (lo2 _ (by omega) (by omega) (by omega)) (fun j z y => lo2 _ (by omega) (by omega) (by omega)) (fun F k z y => eF _ _ (by omega) (by omega) (by omega))
  · refine RelM_u rM rP l.1.2.2 hp (lo2 _ (by omega) (by omega) (by omega)) (lo2 _ (by omega) (by omega) (by omega)) (fun j z y => lo2 _ (by omega) (by omega) (by omega)) q2 (fun F k z y x => by rw [fI_o (by omega), fI_o (Or.inr x), q1 _ _ (by omega)]) ?_
    rw [eF 128 _ (by decide) (by decide) (by decide), eF 129 _ (by decide) (by decide) (by decide), eF 130 _ (by decide) (by decide) (by decide), eF 131 _ (by decide) (by decide) (by decide), lo2 (146 + 7 * p) (by omega) (by omega) (by omega), lo2 (146 + 7 * p + 1) (by omega) (by omega) (by omega), lo2 (146 + 7 * p + 2) (by omega) (by omega) (by omega), lo2 (146 + 7 * p + 3) (by omega) (by omega) (by omega), lo (146 + 7 * p + 4) (by omega), if_neg (by omega), if_pos rfl, fI_o (Or.inl (by decide)), fI_s]
    exact ⟨⟨m.1.1, m.1.2.1, m.1.2.2.1, m.1.2.2.2.1, rfl⟩, fun z => absurd z (by decide)⟩
  · exact RelP_c rP q2
  · have z2 : RelZ S2 := RelZ_c rZ (fun k => q1 _ _ (by omega)) (fun k => q1 _ _ (by omega))
    exact RelZ_c (RelZ_u (k := 27 + cP S p) z2 (by decide : 100 < 65536)) (fun k => fI_o (by omega)) (fun k => fI_o (by omega))
theorem Rel_nap {p t : Nat} (l : Lim w) (hp : p < w 2) (h : Rel S w jc jm) : Rel (fI (fI S 132 (27 + cP S p) (nI 110)) 133 (27 + cP S p) (nI (w 4 + 2 ^ t))) (fNap w p t) jc jm := by
  obtain ⟨rS, rT, rN, rC, rM, rP, rZ⟩ := h
  have l0 := l.1.1
  have m := rM p hp
  have lo : ∀ j, (j < 146 + 7 * p + 4 ∨ 146 + 7 * p + 7 ≤ j) → fNap w p t j = w j := fun j z => by
    unfold fNap
    rw [up_n (by omega), up_n (by omega), up_n (by omega)]
  refine ⟨RelS_c rS (fun j z y => lo j (by omega)) (fun F z y => by rw [fI_o (by omega), fI_o (by omega)]), RelT_c rT (fun j z y => lo j (by omega)) (fun F z y => by rw [fI_o (by omega), fI_o (by omega)]), RelN_c rN l (lo _ (by omega)) (fun j z y => lo _ (by omega)) (fun F k z y => by rw [fI_o (by omega), fI_o (by omega)]) rfl, RelC_c rC l.1.2.1 (lo _ (by omega)) (lo _ (by omega)) (fun j z y => lo _ (by omega)) (fun F k z y => by rw [fI_o (by omega), fI_o (by omega)]),
    RelM_u rM rP l.1.2.2 hp (lo _ (by omega)) (lo _ (by omega)) (fun j z y => lo _ (by omega)) rfl (fun F k z y x => by rw [fI_o (Or.inr x), fI_o (Or.inr x)]) ?_, RelP_c rP rfl, RelZ_c (RelZ_u (k := 27 + cP S p) rZ (by decide : 110 < 65536)) (fun k => fI_o (by omega)) (fun k => fI_o (by omega))⟩
  have e4 : fNap w p t (146 + 7 * p + 4) = 110 := by
    unfold fNap
    rw [up_n (by omega), up_n (by omega), up_s]
  have e5 : fNap w p t (146 + 7 * p + 5) = 2 ^ t := by
    unfold fNap
    rw [up_n (by omega), up_s]
  have e6 : fNap w p t (146 + 7 * p + 6) = 1 := by
    unfold fNap
    rw [up_s]
  rw [e4, e5, e6, lo _ (by omega), lo _ (by omega), lo _ (by omega), lo _ (by omega), lo 4 (by omega), fI_o (by omega), fI_o (by omega), fI_o (by omega), fI_o (by omega), fI_o (by omega), fI_o (by omega), fI_o (by omega), fI_o (by omega), fI_o (by omega), fI_s, fI_s]
  refine ⟨⟨m.1.1, m.1.2.1, m.1.2.2.1, m.1.2.2.2.1, rfl⟩, fun _ => ?_⟩
  rw [if_neg (by omega)]
  rfl
end ARR2

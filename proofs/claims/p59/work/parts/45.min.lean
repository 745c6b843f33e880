/-! A MINUTE OF THE CLASS -/
section MINS
variable {G : mgT} {μ : mmT} {a b n : Nat} {S S' : cT} {v w : Nat → Nat} {jc jm jc' jm' : Nat}
theorem RelC_u {c : Nat} (h : RelC S v jc) (l1 : v 1 ≤ 4) (h1 : w 1 = v 1) (h4 : w 4 = v 4) (hj : ∀ d, d ≠ c → (jc ≤ d ↔ jc' ≤ d)) (hv : ∀ j, 138 ≤ j → j < 146 → j ≠ 138 + 2 * c → j ≠ 138 + 2 * c + 1 → w j = v j) (hf : ∀ F k, 64 ≤ F → F ≤ 66 → k ≠ 23 + c → cF S' F k = cF S F k)
    (hrow : c < v 1 → cF S' 64 (23 + c) = (if w (138 + 2 * c) = 0 then 0 else 1) ∧ (w (138 + 2 * c) ≠ 0 → cF S' 65 (23 + c) = nI (w (138 + 2 * c) - 1) ∧ cF S' 66 (23 + c) = nI (w 4 + w (138 + 2 * c + 1) - (if jc' ≤ c then 1 else 0)))) : RelC S' w jc' := by
  intro d hd
  rw [h1] at hd
  by_cases e : d = c
  · subst e
    exact hrow hd
  · rw [hv (138 + 2 * d) (by omega) (by omega) (by omega) (by omega), hv (138 + 2 * d + 1) (by omega) (by omega) (by omega) (by omega), h4, hf 64 _ (by decide) (by decide) (by omega), hf 65 _ (by decide) (by decide) (by omega), hf 66 _ (by decide) (by decide) (by omega)]
    have := h d hd
    simp only [hj d e] at this
    exact this
theorem RelM_v {p : Nat} (h : RelM S v jm) (rP : RelP S) (l2 : v 2 ≤ 16) (hp : p < v 2) (h2 : w 2 = v 2) (h4 : w 4 = v 4) (hj : ∀ d, d ≠ p → (jm ≤ d ↔ jm' ≤ d)) (hv : ∀ j, 146 ≤ j → j < 146 + 7 * p ∨ 146 + 7 * p + 7 ≤ j → w j = v j) (hP : cP S' = cP S) (hf : ∀ F k, 128 ≤ F → F ≤ 133 → k ≠ 27 + cP S p → cF S' F k = cF S F k)
    (hrow : (cF S' 128 (27 + cP S p) = nI (w (146 + 7 * p)) ∧ cF S' 129 (27 + cP S p) = nI (w (146 + 7 * p + 1)) ∧ cF S' 130 (27 + cP S p) = nI (w (146 + 7 * p + 2)) ∧ cF S' 131 (27 + cP S p) = nI (w (146 + 7 * p + 3)) ∧ cF S' 132 (27 + cP S p) = nI (w (146 + 7 * p + 4))) ∧
      (w (146 + 7 * p + 4) = 110 → cF S' 133 (27 + cP S p) = nI (w 4 + w (146 + 7 * p + 5) - (if jm' ≤ p ∧ w (146 + 7 * p + 6) = 0 then 1 else 0)))) : RelM S' w jm' := by
  intro q hq
  rw [h2] at hq
  rw [hP]
  by_cases c : q = p
  · subst c
    exact hrow
  · have hk : 27 + cP S q ≠ 27 + cP S p := fun z => c ((rP p (by omega)).2 q (by omega) (by omega))
    rw [hv (146 + 7 * q) (by omega) (by omega), hv (146 + 7 * q + 1) (by omega) (by omega), hv (146 + 7 * q + 2) (by omega) (by omega), hv (146 + 7 * q + 3) (by omega) (by omega), hv (146 + 7 * q + 4) (by omega) (by omega), hv (146 + 7 * q + 5) (by omega) (by omega), hv (146 + 7 * q + 6) (by omega) (by omega), h4, hf 128 _ (by decide) (by decide) hk, hf 129 _ (by decide) (by decide) hk, hf 130 _ (by decide) (by decide) hk, hf 131 _ (by decide) (by decide) hk, hf 132 _ (by decide) (by decide) hk, hf 133 _ (by decide) (by decide) hk]
    have := h q hq
    simp only [hj q c] at this
    exact this
theorem Rel_rest (h : Rel S v jc jm) (h1 : v 1 ≤ jc) (h2 : v 2 ≤ jm) (h3 : v 1 ≤ jc') (h4 : v 2 ≤ jm') : Rel S v jc' jm' := by
  obtain ⟨rS, rT, rN, rC, rM, rP, rZ⟩ := h
  refine ⟨rS, rT, rN, fun c hc => ?_, fun p hp => ?_, rP, rZ⟩
  · have := rC c hc
    rw [if_neg (show ¬ jc ≤ c by omega)] at this
    rw [if_neg (show ¬ jc' ≤ c by omega)]
    exact this
  · have := rM p hp
    rw [if_neg (show ¬ (jm ≤ p ∧ v (146 + 7 * p + 6) = 0) by omega)] at this
    rw [if_neg (show ¬ (jm' ≤ p ∧ v (146 + 7 * p + 6) = 0) by omega)]
    exact this
/-- what a landing asks of the row -/
def LandOk (b i : Nat) (w : Nat → Nat) : Prop := Lim w ∧ Bd b w ∧ (i < w 1 → w (138 + 2 * i) ≠ 0 → 1 ≤ w (138 + 2 * i + 1) ∧ fPl w (nI (w (138 + 2 * i) - 1)) < w 2 ∧ w (146 + 7 * fPl w (nI (w (138 + 2 * i) - 1)) + 3) ≤ 4)
theorem t_landCrows {Q : mmT → Prop} {N : Nat} {I : Nat → (Nat → Nat) → Prop} (hs : SS μ a) (hb2 : b < 2 ^ 27) (hI : ∀ i w, I i w → w 1 = N ∧ LandOk b i w ∧ (i < N → I (i + 1) (fLand i w))) (hv : I 0 v) (hr : Rel S v 0 0) (h : ∀ S', I N (itr fLand N 0 v) → Rel S' (itr fLand N 0 v) N 0 → Q (CT μ a S')) : w_X8_landCrows G (CT μ a S) a Q := by
  unfold w_X8_landCrows
  refine (lpE (W := fun n i => ∀ S w, I i w → Rel S w i 0 → (∀ S', I N (itr fLand (N - i) i w) → Rel S' (itr fLand (N - i) i w) N 0 → Q (CT μ a S')) → w_X8_landCrows_l2 G a Q n (nI i) (CT μ a S)) (N := N) ?_ (Nat.zero_le _)).imp fun n hn => hn S v hv hr h
  intro n i hi ih S w iw hr h
  obtain ⟨eN, ⟨l, bw, ok⟩, nxI⟩ := hI i w iw
  have l1 := l.1.2.1
  have hr0 := hr
  obtain ⟨rS, rT, rN, rC, rM, rP, rZ⟩ := hr
  show w_X8_landCrows_b2 G a Q _ (nI i) (CT μ a S)
  unfold w_X8_landCrows_b2 w_X8_landCrows_b48
  rw [CT_I0, rS.2.1, CT_I0, rS.2.2.2.1]
  refine ⟨hs.k0, pk_le (w 1) i (fun c => ?_) (fun c => ?_)⟩
  · have e : i = N := by omega
    subst e
    rw [Nat.sub_self] at h
    exact h S iw hr0
  · have hl : i < N := by omega
    have nx : ∀ S', Rel S' (fLand i w) (i + 1) 0 → w_X8_landCrows_l2 G a Q n (nI i + nI 1) (CT μ a S') := fun S' r => by
      rw [nI_add]
      refine ih hl S' (fLand i w) (nxI hl) r ?_
      rw [show N - i = (N - (i + 1)) + 1 by omega] at h
      exact h
    refine gc hs (by omega) (gco hs (by omega) ?_)
    have rc := rC i c
    rw [CT_I (by omega), rc.1]
    refine ⟨fun z => ?_, fun z => ?_⟩
    · have e0 : w (138 + 2 * i) = 0 := by
        by_cases y : w (138 + 2 * i) = 0
        · exact y
        · rw [if_neg y] at z
          exact absurd z (by decide)
      refine nx S ?_
      unfold fLand
      rw [if_pos e0]
      exact ⟨rS, rT, rN, RelC_u rC l1 rfl rfl (fun d hd => by omega) (fun _ _ _ _ _ => rfl) (fun _ _ _ _ _ => rfl) (fun _ => ⟨rc.1, fun y => absurd e0 y⟩), rM, rP, rZ⟩
    · have e0 : w (138 + 2 * i) ≠ 0 := fun y => z (by rw [if_pos y])
      obtain ⟨e65, e66⟩ := rc.2 e0
      obtain ⟨o1, o2, o3⟩ := ok c e0
      have b4 := bw 4
      have br := bw (138 + 2 * i + 1)
      have bc := bw (138 + 2 * i)
      rw [CT_I (by omega), e66, if_pos (Nat.le_refl _)]
      refine ⟨fun c3 => nx S ?_, fun c3 => ?_⟩
      · have r2 : 1 < w (138 + 2 * i + 1) := by
          by_cases y : w (138 + 2 * i + 1) = 1
          · exact absurd (by rw [y, Nat.add_sub_cancel]) c3
          · omega
        unfold fLand
        rw [if_neg e0, if_pos r2]
        refine ⟨RelS_c rS (fun j z y => up_n (by omega)) (fun _ _ _ => rfl), RelT_c rT (fun j z y => up_n (by omega)) (fun _ _ _ => rfl), RelN_c rN l (up_n (by omega)) (fun j z y => up_n (by omega)) (fun _ _ _ _ => rfl) rfl, RelC_u (c := i) rC l1 (up_n (by omega)) (up_n (by omega)) (fun d hd => by omega) (fun j z y x t => up_n t) (fun _ _ _ _ _ => rfl) (fun _ => ?_), RelM_c rM l.1.2.2 (up_n (by omega)) (up_n (by omega)) (fun j z => up_n (by omega)) rfl (fun _ _ _ _ => rfl), rP, rZ⟩
        rw [up_n (by omega), up_s, up_n (by omega), if_neg (show ¬ i + 1 ≤ i by omega), if_neg e0, e65, e66]
        rw [rc.1, if_neg e0]
        refine ⟨rfl, fun _ => ⟨rfl, ?_⟩⟩
        rw [if_pos (Nat.le_refl _)]
        congr 1
        omega
      · have r1 : w (138 + 2 * i + 1) = 1 := by
          have := (nI_eq (by omega) (by omega)).mp c3
          omega
        have vp : fPl (up (up w (138 + 2 * i + 1) (w (138 + 2 * i + 1) - 1)) (138 + 2 * i) 0) (nI (w (138 + 2 * i) - 1)) = fPl w (nI (w (138 + 2 * i) - 1)) := fPl_c (by rw [up_n (by omega), up_n (by omega)]) (fun q _ => by rw [up_n (by omega), up_n (by omega)])
        rw [CT_sI (by omega), CT_I (by omega), fI_o (by omega), e65]
        have hid : nI (w (146 + 7 * fPl w (nI (w (138 + 2 * i) - 1)))) = nI (w (138 + 2 * i) - 1) := ff_pl o2
        have bi := bw (146 + 7 * fPl w (nI (w (138 + 2 * i) - 1)))
        have hid2 := (nI_eq (by omega) (by omega)).mp hid
        have ef : fLand i w = fArrP (up (up w (138 + 2 * i + 1) (w (138 + 2 * i + 1) - 1)) (138 + 2 * i) 0) (fPl w (nI (w (138 + 2 * i) - 1))) := by
          unfold fLand fArrives
          rw [if_neg e0, if_neg (by omega), vp]
        rw [ef] at nx
        refine t_arrive hs (jc := i + 1) (Lim_up (Lim_up l (by omega)) (by omega)) ?_ (Bd_up (Bd_up bw (by omega)) (by omega)) hb2 vp (by rw [up_n (by omega), up_n (by omega)]; exact o2) (by rw [up_n (by omega), up_n (by omega)]; exact hid2.symm) (by rw [up_n (by omega), up_n (by omega)]; exact o3) nx
        refine ⟨RelS_c rS (fun j z y => by rw [up_n (by omega), up_n (by omega)]) (fun F z y => fI_o (by omega)), RelT_c rT (fun j z y => by rw [up_n (by omega), up_n (by omega)]) (fun F z y => fI_o (by omega)), RelN_c rN l (by rw [up_n (by omega), up_n (by omega)]) (fun j z y => by rw [up_n (by omega), up_n (by omega)]) (fun F k z y => fI_o (by omega)) rfl, RelC_u (c := i) rC l1 (by rw [up_n (by omega), up_n (by omega)]) (by rw [up_n (by omega), up_n (by omega)]) (fun d hd => by omega) (fun j z y x t => by rw [up_n x, up_n t]) (fun F k z y x => fI_o (by omega)) (fun _ => ?_), RelM_c rM l.1.2.2 (by rw [up_n (by omega), up_n (by omega)]) (by rw [up_n (by omega), up_n (by omega)]) (fun j z => by rw [up_n (by omega), up_n (by omega)]) rfl (fun F k z y => fI_o (by omega)), RelP_c rP rfl, fun k hk => ?_, fun d hd => ?_⟩
        · rw [up_s, fI_s]
          exact ⟨rfl, fun y => absurd rfl y⟩
        · rw [fI_o (by omega)]
          exact rZ.1 k hk
        · rw [cF_fI]
          split
          · exact Or.inl rfl
          · exact rZ.2 d hd
end MINS

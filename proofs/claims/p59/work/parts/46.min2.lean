section MIN2
variable {G : mgT} {μ : mmT} {a b n : Nat} {S S' : cT} {v w : Nat → Nat} {jc jm jc' jm' : Nat}
def WakeOk (b p : Nat) (w : Nat → Nat) : Prop := Lim w ∧ Bd b w ∧ (p < w 2 → w (146 + 7 * p + 4) = 110 → 1 ≤ w (146 + 7 * p + 5) ∧ w (146 + 7 * p + 6) ≤ 1)
theorem t_wakeMessages {Q : mmT → Prop} {N : Nat} {I : Nat → (Nat → Nat) → Prop} (hs : SS μ a) (hb2 : b < 2 ^ 28) (hI : ∀ i w, I i w → w 2 = N ∧ WakeOk b i w ∧ (i < N → I (i + 1) (fWake i w))) (hv : I 0 v) (hr : Rel S v jc 0) (h : ∀ S', I N (itr fWake N 0 v) → Rel S' (itr fWake N 0 v) jc N → Q (CT μ a S')) : w_X8_wakeMessages G (CT μ a S) a Q := by
  unfold w_X8_wakeMessages
  refine (lpE (W := fun n i => ∀ S w, I i w → Rel S w jc i → (∀ S', I N (itr fWake (N - i) i w) → Rel S' (itr fWake (N - i) i w) jc N → Q (CT μ a S')) → w_X8_wakeMessages_l2 G a Q n (nI i) (CT μ a S)) (N := N) ?_ (Nat.zero_le _)).imp fun n hn => hn S v hv hr h
  intro n i hi ih S w iw hr h
  obtain ⟨eN, ⟨l, bw, ok⟩, nxI⟩ := hI i w iw
  have l2 := l.1.2.2
  have hr0 := hr
  obtain ⟨rS, rT, rN, rC, rM, rP, rZ⟩ := hr
  show w_X8_wakeMessages_b2 G a Q _ (nI i) (CT μ a S)
  unfold w_X8_wakeMessages_b2 w_X8_wakeMessages_b43
  rw [CT_I0, rS.2.2.1, CT_I0, rS.2.2.2.1]
  refine ⟨hs.k0, pk_le (w 2) i (fun c => ?_) (fun c => ?_)⟩
  · have e : i = N := by omega
    subst e
    rw [Nat.sub_self] at h
    exact h S iw hr0
  · have hl : i < N := by omega
    have nx : ∀ S', Rel S' (fWake i w) jc (i + 1) → w_X8_wakeMessages_l2 G a Q n (nI i + nI 1) (CT μ a S') := fun S' r => by
      rw [nI_add]
      refine ih hl S' (fWake i w) (nxI hl) r ?_
      rw [show N - i = (N - (i + 1)) + 1 by omega] at h
      exact h
    have pc := (rP i (by omega)).1
    have m := rM i c
    have b4 := bw 4
    have bs := bw (146 + 7 * i + 4)
    have b5 := bw (146 + 7 * i + 5)
    refine gm hs (by omega) (gmo hs (by omega) pc ?_)
    rw [CT_I (by omega), m.1.2.2.2.2, CT_I (by omega)]
    -- a row that only its nap's count changes in
    have same : ∀ x, (∀ j, j ≠ 146 + 7 * i + 5 → j ≠ 146 + 7 * i + 6 → x j = w j) → (w (146 + 7 * i + 4) = 110 → w 4 + w (146 + 7 * i + 5) - (if i ≤ i ∧ w (146 + 7 * i + 6) = 0 then 1 else 0) = w 4 + x (146 + 7 * i + 5)) → Rel S x jc (i + 1) := fun x hx hn => by
      refine ⟨RelS_c rS (fun j z y => hx j (by omega) (by omega)) (fun _ _ _ => rfl), RelT_c rT (fun j z y => hx j (by omega) (by omega)) (fun _ _ _ => rfl), RelN_c rN l (hx _ (by omega) (by omega)) (fun j z y => hx j (by omega) (by omega)) (fun _ _ _ _ => rfl) rfl, RelC_c rC l.1.2.1 (hx _ (by omega) (by omega)) (hx _ (by omega) (by omega)) (fun j z y => hx j (by omega) (by omega)) (fun _ _ _ _ => rfl), RelM_v (p := i) rM rP l2 c (hx _ (by omega) (by omega)) (hx _ (by omega) (by omega)) (fun d hd => by omega) (fun j z y => hx j (by omega) (by omega)) rfl (fun _ _ _ _ _ => rfl) ?_, rP, rZ⟩
      rw [hx (146 + 7 * i) (by omega) (by omega), hx (146 + 7 * i + 1) (by omega) (by omega), hx (146 + 7 * i + 2) (by omega) (by omega), hx (146 + 7 * i + 3) (by omega) (by omega), hx (146 + 7 * i + 4) (by omega) (by omega), hx 4 (by omega) (by omega), if_neg (by omega)]
      exact ⟨m.1, fun z => by rw [m.2 z, hn z]; rfl⟩
    refine ⟨fun z => nx S ?_, fun z => ?_⟩
    · have e : ¬ w (146 + 7 * i + 4) = 110 := fun y => z (by rw [y])
      unfold fWake
      rw [if_neg e]
      exact same w (fun _ _ _ => rfl) (fun y => absurd y e)
    · have e : w (146 + 7 * i + 4) = 110 := (nI_eq (by omega) (by decide)).mp z
      obtain ⟨o1, o2⟩ := ok c e
      rw [m.2 e]
      by_cases f : w (146 + 7 * i + 6) = 0
      · rw [if_pos ⟨Nat.le_refl _, f⟩]
        refine ⟨fun y => nx S ?_, fun y => ?_⟩
        · have n1 : ¬ w (146 + 7 * i + 5) = 1 := fun q => y (by rw [q, Nat.add_sub_cancel])
          unfold fWake
          rw [if_pos e, if_neg (by omega), if_neg n1]
          refine same _ (fun j y1 y2 => up_n y1) (fun _ => ?_)
          rw [if_pos ⟨Nat.le_refl _, f⟩, up_s]
          omega
        · have n1 : w (146 + 7 * i + 5) = 1 := by
            have := (nI_eq (by omega) (by omega)).mp y
            omega
          rw [CT_sI (by omega)]
          refine nx _ ?_
          unfold fWake
          rw [if_pos e, if_neg (by omega), if_pos n1]
          have hx : ∀ j, j ≠ 146 + 7 * i + 5 → j ≠ 146 + 7 * i + 4 → up (up w (146 + 7 * i + 5) 0) (146 + 7 * i + 4) 119 j = w j := fun j y1 y2 => by rw [up_n y2, up_n y1]
          refine ⟨RelS_c rS (fun j z y => hx j (by omega) (by omega)) (fun F z y => fI_o (by omega)), RelT_c rT (fun j z y => hx j (by omega) (by omega)) (fun F z y => fI_o (by omega)), RelN_c rN l (hx _ (by omega) (by omega)) (fun j z y => hx j (by omega) (by omega)) (fun F k z y => fI_o (by omega)) rfl, RelC_c rC l.1.2.1 (hx _ (by omega) (by omega)) (hx _ (by omega) (by omega)) (fun j z y => hx j (by omega) (by omega)) (fun F k z y => fI_o (by omega)), RelM_v (p := i) rM rP l2 c (hx _ (by omega) (by omega)) (hx _ (by omega) (by omega)) (fun d hd => by omega) (fun j z y => hx j (by omega) (by omega)) rfl (fun F k z y x => fI_o (Or.inr x)) ?_, RelP_c rP rfl, RelZ_u rZ (by decide : 119 < 65536)⟩
          rw [hx (146 + 7 * i) (by omega) (by omega), hx (146 + 7 * i + 1) (by omega) (by omega), hx (146 + 7 * i + 2) (by omega) (by omega), hx (146 + 7 * i + 3) (by omega) (by omega), up_s, fI_o (by omega), fI_o (by omega), fI_o (by omega), fI_o (by omega), fI_s]
          exact ⟨⟨m.1.1, m.1.2.1, m.1.2.2.1, m.1.2.2.2.1, rfl⟩, fun q => absurd q (by decide)⟩
      · rw [if_neg (fun q => f q.2)]
        refine ⟨fun y => nx S ?_, fun y => ?_⟩
        · unfold fWake
          rw [if_pos e, if_pos (by omega)]
          refine same _ (fun j y1 y2 => up_n y2) (fun _ => ?_)
          rw [if_neg (fun q => f q.2), up_n (by omega)]
          rfl
        · exfalso
          have := (nI_eq (by omega) (by omega)).mp y
          omega
end MIN2

theorem itr_I {f : Nat → (Nat → Nat) → Nat → Nat} {I : Nat → (Nat → Nat) → Prop} {N : Nat} (hI : ∀ i w, I i w → i < N → I (i + 1) (f i w)) : ∀ d i v, I i v → i + d = N → I N (itr f d i v) := by
  intro d
  induction d with
  | zero =>
    intro i v hv e
    have e : i = N := by omega
    rw [← e]
    exact hv
  | succ d ih =>
    intro i v hv e
    exact ih (i + 1) (f i v) (hI i v hv (by omega)) (by omega)
theorem nlt_of {a b : Nat} (ha : a < 2 ^ 31) (h : ¬ nI b ≤ nI a) : a < b := by
  by_cases q : a < b
  · exact q
  · exact absurd (nI_le (by omega) ha) h
section MOD5
variable {G : mgT} {μ : mmT} {m : Nat} {v : Nat → Nat} {b : Nat}
theorem s_X11_minute_l109 {Q : mmT → Prop} (hm : MS μ m) {b N : Nat} {I : Nat → (Nat → Nat) → Prop} (hI : ∀ p w, I p w → w 2 = N ∧ Bd b w ∧ (p < N → (w (146 + 7 * p + 4) = 110 → ¬ w (146 + 7 * p + 6) = 1 → 1 ≤ w (146 + 7 * p + 5)) ∧ I (p + 1) (fWake p w))) (hb : b < 2 ^ 30) (hN : N ≤ 16) {v : Nat → Nat} (hv : I 0 v) (h : I N (itr fWake N 0 v) → ∃ n, w_X11_minute_l194 G m Q n (nI 0) (VT μ m (itr fWake N 0 v))) : ∃ n, w_X11_minute_l109 G m Q n (nI 0) (VT μ m v) := by
  refine (lpE (W := fun n i => ∀ v, I i v → (∃ n, w_X11_minute_l194 G m Q n (nI 0) (VT μ m (itr fWake (N - i) i v))) → w_X11_minute_l109 G m Q n (nI i) (VT μ m v)) (N := N) ?_ (Nat.zero_le _)).imp fun n hn => hn v hv (h (itr_I (fun i w hw hi => ((hI i w hw).2.2 hi).2) N 0 v hv (by omega)))
  intro n i hi ih v hv hq
  show w_X11_minute_b109 G m Q _ (nI i) (VT μ m v)
  unfold w_X11_minute_b109
  obtain ⟨h1, p1, p2⟩ := hI i v hv
  refine ⟨hm.1, rd_s hm (by omega) ?_⟩
  rw [cl (by omega), VT_A, h1]
  refine ⟨fun c => ?_, fun c => ?_⟩
  · have e : i = N := by
      have := (nI_leI (by omega) (by omega)).mp c
      omega
    rw [e, Nat.sub_self] at hq
    exact hq
  · have hl : i < N := nlt_of (by omega) c
    obtain ⟨p3, hI1⟩ := p2 hl
    have hq1 : ∃ n, w_X11_minute_l194 G m Q n (nI 0) (VT μ m (itr fWake (N - (i + 1)) (i + 1) (fWake i v))) := by
      have e : N - i = (N - (i + 1)) + 1 := by omega
      rw [e] at hq
      exact hq
    have nx := ih hl (fWake i v) hI1 hq1
    unfold w_X11_minute_b186
    rw [nI_add]
    unfold fWake at nx
    have b4 := p1 (146 + 7 * i + 4)
    have b5 := p1 (146 + 7 * i + 5)
    have b6 := p1 (146 + 7 * i + 6)
    refine s_X11_of hm (by omega) ⟨fun c2 => ?_, fun c2 => ?_⟩
    · have c3 : v (146 + 7 * i + 4) = 110 := (nI_eq (by omega) (by omega)).mp c2
      rw [if_pos c3] at nx
      refine s_X11_of hm (by omega) ⟨fun c4 => ?_, fun c4 => ?_⟩
      · have c5 : ¬ v (146 + 7 * i + 6) = 1 := fun e => c4 (by rw [e])
        rw [if_neg c5] at nx
        have q1 := p3 c3 c5
        refine s_X11_of hm (by omega) ?_
        rw [pk_sub q1]
        refine s_X11_sets hm (by omega) ⟨hm.1, s_X11_of hm (by omega) ?_⟩
        rw [up_s]
        refine ⟨fun c6 => ?_, fun c6 => ?_⟩
        · have c7 : ¬ v (146 + 7 * i + 5) = 1 := fun e => c6 (by rw [e]; rfl)
          rw [if_neg c7] at nx
          exact nx
        · have c7 : v (146 + 7 * i + 5) = 1 := by
            have := (nI_eq (b := 0) (by omega) (by omega)).mp c6
            omega
          rw [if_pos c7] at nx
          refine s_X11_sets hm (by omega) ?_
          rw [c7]
          exact nx
      · have c5 : v (146 + 7 * i + 6) = 1 := (nI_eq (by omega) (by omega)).mp c4
        rw [if_pos c5] at nx
        exact s_X11_sets hm (by omega) nx
    · have c3 : ¬ v (146 + 7 * i + 4) = 110 := fun e => c2 (by rw [e])
      rw [if_neg c3] at nx
      exact nx
theorem s_X11_minute_l194 {Q : mmT → Prop} (hm : MS μ m) {b N : Nat} {I : Nat → (Nat → Nat) → Prop} (hI : ∀ c w, I c w → w 1 = N ∧ Bd b w ∧ w 2 ≤ 16 ∧ (c < N → (fWaiting w 0 < w 2 → w (146 + 7 * fWaiting w 0 + 1) < 6) ∧ I (c + 1) (fSend c w))) (hb : b < 2 ^ 30) (hN : N ≤ 4) {v : Nat → Nat} (hv : I 0 v) (h : I N (itr fSend N 0 v) → Q (VT μ m (itr fSend N 0 v))) : ∃ n, w_X11_minute_l194 G m Q n (nI 0) (VT μ m v) := by
  refine (lpE (W := fun n i => ∀ v, I i v → Q (VT μ m (itr fSend (N - i) i v)) → w_X11_minute_l194 G m Q n (nI i) (VT μ m v)) (N := N) ?_ (Nat.zero_le _)).imp fun n hn => hn v hv (h (itr_I (fun i w hw hi => ((hI i w hw).2.2.2 hi).2) N 0 v hv (by omega)))
  intro n i hi ih v hv hq
  show w_X11_minute_b194 G m Q _ (nI i) (VT μ m v)
  unfold w_X11_minute_b194
  obtain ⟨h1, p1, hc, p2⟩ := hI i v hv
  refine ⟨hm.1, rd_s hm (by omega) ?_⟩
  rw [cl (by omega), VT_A, h1]
  refine ⟨fun c => ?_, fun c => ?_⟩
  · have e : i = N := by
      have := (nI_leI (by omega) (by omega)).mp c
      omega
    rw [e, Nat.sub_self] at hq
    exact hq
  · have hl : i < N := nlt_of (by omega) c
    obtain ⟨p3, hI1⟩ := p2 hl
    have hq1 : Q (VT μ m (itr fSend (N - (i + 1)) (i + 1) (fSend i v))) := by
      have e : N - i = (N - (i + 1)) + 1 := by omega
      rw [e] at hq
      exact hq
    have nx := ih hl (fSend i v) hI1 hq1
    have e1 : nI 138 + nI 2 * nI i = nI (138 + 2 * i) := by rw [pk_mul, nI_add]
    have e2 : nI (138 + 2 * i) + nI 1 = nI (138 + 2 * i + 1) := nI_add _ _
    rw [e1, cl (show 138 + 2 * i < 2 ^ 31 by omega), VT_A]
    unfold fSend at nx
    refine ⟨vin_s hm (by omega), fun c2 => ?_, fun c2 => ?_⟩
    · have c3 : ¬ v (138 + 2 * i) = 0 := fun e => c2 (by rw [e]; rfl)
      rw [if_neg c3] at nx
      unfold w_X11_minute_b228 w_X11_minute_b306
      rw [nI_add]
      exact ⟨fun c4 => absurd rfl c4, fun _ => nx⟩
    · have c3 : v (138 + 2 * i) = 0 := (nI_eq (b := 0) (by have := p1 (138 + 2 * i); omega) (by omega)).mp c2
      rw [if_pos c3] at nx
      refine s_X11_waiting hm hc p1 hb ?_
      unfold w_X11_minute_b228 w_X11_minute_b304 w_X11_minute_b306
      by_cases hp : fWaiting v 0 < v 2
      · have hn := p3 hp
        rw [if_pos hp] at nx
        have ez : fWaiting v (nI 0) = fWaiting v 0 := rfl
        rw [ez, pn_y hp]
        unfold fSendP at nx
        generalize fWaiting v 0 = p at *
        refine ⟨fun _ => ⟨hm.1, s_X11_sets hm (by omega) ⟨hm.1, s_X11_of hm (by omega) ?_⟩⟩, fun c4 => absurd c4 (nI_m1 (by omega))⟩
        rw [up_n (show 146 + 7 * p + 0 ≠ 146 + 7 * p + 4 by omega), nI_add, e1, e2]
        refine rd_s hm (by omega) ?_
        rw [cl (show 138 + 2 * i < 2 ^ 31 by omega), VT_sA]
        refine s_X11_of hm (by omega) ?_
        rw [up_n (show 146 + 7 * p + 1 ≠ 138 + 2 * i by omega), up_n (show 146 + 7 * p + 1 ≠ 146 + 7 * p + 4 by omega)]
        refine s_X11_nest hm (by omega) (rd_s hm (by omega) ?_)
        generalize hnn : v (146 + 7 * p + 1) = n0 at *
        rw [up_n (show 12 + 21 * n0 + 0 ≠ 138 + 2 * i by omega), up_n (show 12 + 21 * n0 + 0 ≠ 146 + 7 * p + 4 by omega), cl (show 5 < 2 ^ 31 by omega), VT_A, up_n (show 5 ≠ 138 + 2 * i by omega), up_n (show 5 ≠ 146 + 7 * p + 4 by omega), nI_add, nI_add]
        have b5 := p1 5
        refine ⟨fun c4 => ?_, fun c4 => ?_⟩
        · have c5 : ¬ 5 < v 5 := by
            have := (nI_leI (by omega) (by omega)).mp c4
            omega
          rw [if_neg c5] at nx
          refine rd_s hm (by omega) ?_
          rw [cl (show 138 + 2 * i + 1 < 2 ^ 31 by omega), VT_sA]
          exact nx
        · have c5 : 5 < v 5 := nlt_of (by omega) c4
          rw [if_pos c5] at nx
          refine rd_s hm (by omega) ?_
          rw [cl (show 138 + 2 * i + 1 < 2 ^ 31 by omega), nI_add, VT_sA]
          exact nx
      · rw [if_neg hp] at nx
        have ez : fWaiting v (nI 0) = fWaiting v 0 := rfl
        rw [ez, pn_n hp, nI_add]
        exact ⟨fun c4 => absurd rfl c4, fun _ => nx⟩
end MOD5

section MIN3
variable {G : mgT} {μ : mmT} {a b n : Nat} {S S' : cT} {v w : Nat → Nat} {jc jm jc' jm' : Nat}
theorem t_flight {Q : Int32 → Prop} {k : Nat} (hs : SS μ a) (l : Lim v) (rS : RelS S v) (rN : RelN S v) (hk : k < 16) (hn : n < v 0) (e : cF S 129 (27 + k) = nI n) (b5 : v 5 < 2 ^ 30) (h : Q (nI (v (12 + 21 * n) + if 5 < v 5 then 1 else 0))) : w_X8_flightLength G (CT μ a S) a (some (a + (27 + k))) Q := by
  have l0 := l.1.1
  unfold w_X8_flightLength w_X8_flightLength_b21 w_X8_flightLength_b37
  refine ⟨_, rfl, hs.mk hk, hs.k0, ?_⟩
  rw [CT_I (by omega), e, CT_I0, rS.2.2.2.2]
  refine t_nestAt hs rS l0 (fun m hm z => ?_) (fun z => absurd rfl (z _ hn))
  have e2 : m = n := ((nI_eq (by omega) (by omega)).mp z).symm
  subst e2
  refine ⟨fun z => (nomatch z), fun a6 z => ?_⟩
  cases z
  rw [CT_I (by omega), (rN m hm).1.1]
  refine ⟨hs.nk (by omega), hs.k0, pk_le (v 5) 5 (fun c => ?_) (fun c => ?_)⟩
  · rw [if_neg (by omega)] at h
    exact h
  · rw [if_pos c] at h
    rw [nI_add]
    exact h
def SendOk (b : Nat) (w : Nat → Nat) : Prop := Lim w ∧ Bd b w ∧ (∀ p, p < w 2 → w (146 + 7 * p + 4) = 119 → w (146 + 7 * p + 3) ≤ 4)
theorem t_sendCrows {Q : mmT → Prop} {N : Nat} {I : Nat → (Nat → Nat) → Prop} (hs : SS μ a) (hb2 : b < 2 ^ 28) (hI : ∀ i w, I i w → w 1 = N ∧ SendOk b w ∧ (i < N → I (i + 1) (fSend i w))) (hv : I 0 v) (hr : Rel S v 4 16) (h : ∀ S', I N (itr fSend N 0 v) → Rel S' (itr fSend N 0 v) 4 16 → Q (CT μ a S')) : w_X8_sendCrows G (CT μ a S) a Q := by
  unfold w_X8_sendCrows
  refine (lpE (W := fun n i => ∀ S w, I i w → Rel S w 4 16 → (∀ S', I N (itr fSend (N - i) i w) → Rel S' (itr fSend (N - i) i w) 4 16 → Q (CT μ a S')) → w_X8_sendCrows_l2 G a Q n (nI i) (CT μ a S)) (N := N) ?_ (Nat.zero_le _)).imp fun n hn => hn S v hv hr h
  intro n i hi ih S w iw hr h
  obtain ⟨eN, ⟨l, bw, ok⟩, nxI⟩ := hI i w iw
  have l1 := l.1.2.1
  have l0 := l.1
  have hr0 := hr
  obtain ⟨rS, rT, rN, rC, rM, rP, rZ⟩ := hr
  show w_X8_sendCrows_b2 G a Q _ (nI i) (CT μ a S)
  unfold w_X8_sendCrows_b2
  rw [CT_I0, rS.2.1]
  refine ⟨hs.k0, pk_le (w 1) i (fun c => ?_) (fun c => ?_)⟩
  · have e : i = N := by omega
    subst e
    rw [Nat.sub_self] at h
    exact h S iw hr0
  · have hl : i < N := by omega
    have i4 : i < 4 := by omega
    have nx : ∀ S', Rel S' (fSend i w) 4 16 → w_X8_sendCrows_b84 G a Q (w_X8_sendCrows_l2 G a Q n) (nI i) (CT μ a S') := fun S' r => by
      unfold w_X8_sendCrows_b84
      rw [nI_add]
      refine ih hl S' (fSend i w) (nxI hl) r ?_
      rw [show N - i = (N - (i + 1)) + 1 by omega] at h
      exact h
    have rc := rC i c
    refine gc hs i4 (gco hs i4 ?_)
    rw [CT_I (by omega), rc.1]
    refine ⟨fun z => ?_, fun z => ?_⟩
    · have e0 : w (138 + 2 * i) = 0 := by
        by_cases y : w (138 + 2 * i) = 0
        · exact y
        · rw [if_neg y] at z
          exact absurd z (by decide)
      refine t_waiting hs l rS rM rP bw (by omega) ok ?_
      unfold w_X8_sendCrows_b31
      have ez : fWaiting w (nI 0) = fWaiting w 0 := rfl
      rw [ez]
      unfold fSend at nx
      rw [if_pos e0] at nx
      by_cases cp : fWaiting w 0 < w 2
      · rw [if_pos cp]
        rw [if_pos cp] at nx
        generalize fWaiting w 0 = p at *
        have m := rM p cp
        have pc := (rP p (by omega)).1
        have hn := l.2.2 p cp
        obtain ⟨-, -, f1, f9, -⟩ := l.2.1 _ hn
        have b4 := bw 4
        have b5 := bw 5
        have bi := bw (146 + 7 * p)
        refine ⟨fun z => (nomatch z), fun a12 z => ?_⟩
        cases z
        rw [CT_sI (by omega)]
        refine ⟨hs.mk pc, hs.k0, gc hs i4 (gco hs i4 ?_)⟩
        rw [CT_sI (by omega)]
        refine gc hs i4 (gco hs i4 ?_)
        rw [CT_I (by omega), fI_o (by omega), fI_o (by omega), m.1.1, CT_sI (by omega)]
        refine gc hs i4 ?_
        have rS2 : RelS (fI (fI (fI S 132 (27 + cP S p) (nI 102)) 64 (23 + i) (nI 1)) 65 (23 + i) (nI (w (146 + 7 * p)))) w := RelS_c rS (fun _ _ _ => rfl) (fun F z y => by rw [fI_o (by omega), fI_o (by omega), fI_o (by omega)])
        have rN2 : RelN (fI (fI (fI S 132 (27 + cP S p) (nI 102)) 64 (23 + i) (nI 1)) 65 (23 + i) (nI (w (146 + 7 * p)))) w := RelN_c rN l rfl (fun _ _ _ => rfl) (fun F k z y => by rw [fI_o (by omega), fI_o (by omega), fI_o (by omega)]) rfl
        refine t_flight hs l rS2 rN2 pc hn (by rw [fI_o (by omega), fI_o (by omega), fI_o (by omega)]; exact m.1.2.1) (by omega) ?_
        refine gco hs i4 ?_
        rw [CT_I0, rS2.2.2.2.1, nI_add, CT_sI (by omega)]
        refine nx _ ?_
        unfold fSendP
        generalize hL : w (12 + 21 * w (146 + 7 * p + 1)) + (if 5 < w 5 then 1 else 0) = L
        have lo : ∀ j, j ≠ 146 + 7 * p + 4 → (j < 138 ∨ 146 ≤ j) → up (up (up w (146 + 7 * p + 4) 102) (138 + 2 * i) (w (146 + 7 * p) + 1)) (138 + 2 * i + 1) L j = w j := fun j z y => by rw [up_n (by omega), up_n (by omega), up_n z]
        have fo : ∀ F k, ¬ (64 ≤ F ∧ F ≤ 66 ∧ k = 23 + i) → ¬ (F = 132 ∧ k = 27 + cP S p) → cF (fI (fI (fI (fI S 132 (27 + cP S p) (nI 102)) 64 (23 + i) (nI 1)) 65 (23 + i) (nI (w (146 + 7 * p)))) 66 (23 + i) (nI (w 4 + L))) F k = cF S F k := fun F k z y => by rw [fI_o (by omega), fI_o (by omega), fI_o (by omega), fI_o (by omega)]
        refine ⟨RelS_c rS (fun j z y => lo j (by omega) (by omega)) (fun F z y => fo _ _ (by omega) (by omega)), RelT_c rT (fun j z y => lo j (by omega) (by omega)) (fun F z y => fo _ _ (by omega) (by omega)), RelN_c rN l (lo _ (by omega) (by omega)) (fun j z y => lo j (by omega) (by omega)) (fun F k z y => fo _ _ (by omega) (by omega)) rfl,
          RelC_u (c := i) rC l1 (lo _ (by omega) (by omega)) (lo _ (by omega) (by omega)) (fun d hd => Iff.rfl) (fun j z y x t => by rw [up_n t, up_n x, up_n (by omega)]) (fun F k z y x => fo _ _ (by omega) (by omega)) (fun _ => ?_),
          RelM_u rM rP l0.2.2 cp (lo _ (by omega) (by omega)) (lo _ (by omega) (by omega)) (fun j z y => lo j (by omega) (by omega)) rfl (fun F k z y x => fo _ _ (by omega) (by omega)) ?_, RelP_c rP rfl, fun k hk => ?_, fun d hd => ?_⟩
        · rw [up_n (by omega), up_s, up_s, lo 4 (by omega) (by omega), fI_o (by omega), fI_o (by omega), fI_s, fI_o (by omega), fI_s, fI_s, if_neg (by omega), if_neg (by omega)]
          exact ⟨rfl, fun _ => ⟨rfl, rfl⟩⟩
        · rw [lo (146 + 7 * p) (by omega) (by omega), lo (146 + 7 * p + 1) (by omega) (by omega), lo (146 + 7 * p + 2) (by omega) (by omega), lo (146 + 7 * p + 3) (by omega) (by omega), up_n (by omega), up_n (by omega), up_s, fo _ _ (by omega) (by omega), fo _ _ (by omega) (by omega), fo _ _ (by omega) (by omega), fo _ _ (by omega) (by omega), fI_o (by omega), fI_o (by omega), fI_o (by omega), fI_s]
          exact ⟨⟨m.1.1, m.1.2.1, m.1.2.2.1, m.1.2.2.2.1, rfl⟩, fun q => absurd q (by decide)⟩
        · rw [fI_o (by omega), fI_o (by omega), fI_o (by omega)]
          exact (RelZ_u (k := 27 + cP S p) rZ (by decide : 102 < 65536)).1 k hk
        · rw [fI_o (by omega), fI_o (by omega), cF_fI]
          split
          · exact Or.inr rfl
          · rw [fI_o (by omega)]
            exact rZ.2 d hd
      · rw [if_neg cp]
        rw [if_neg cp] at nx
        exact ⟨fun _ => nx S hr0, fun a12 z => nomatch z⟩
    · have e0 : ¬ w (138 + 2 * i) = 0 := fun y => z (by rw [if_pos y])
      unfold fSend at nx
      rw [if_neg e0] at nx
      unfold w_X8_sendCrows_b31
      exact ⟨fun _ => nx S hr0, fun a12 z => nomatch z⟩
end MIN3

section ARR3
variable {G : mgT} {μ : mmT} {a b n : Nat} {S : cT} {v w : Nat → Nat} {jc jm : Nat}
theorem ff_pl {x : Int32} (h : fPl v x < v 2) : nI (v (146 + 7 * fPl v x)) = x := of_decide_eq_true (ff_yes _ _ h)
theorem fArr1_o {p j : Nat} (h : j ≠ 10) (h2 : j ≠ 146 + 7 * p + 3) : fArr1 v p j = v j := by
  unfold fArr1
  rw [up_n h, up_n h2]
/-- it goes: a total counts it -/
theorem t_gone {Q : mmT → Prop} {x : Int32} {p F k : Nat} (hs : SS μ a) (l : Lim w) (hr : Rel S w jc 0) (hp : fPl w x = p) (hp2 : p < w 2) (hF : TF F k) (hk : cF S F 4 = nI (w k))
    (h : ∀ S', Rel S' (fCeases (up w k (w k + 1)) p) jc 0 → Q (CT μ a S')) : w_X8_remove G (CT μ a S) a x (fun μ44 => mK μ44 a = 8 ∧ ∃ a46, mR μ44 227 a = some a46 ∧ (mK μ44 a46 = 9 ∧ Q (sI μ44 F a46 (mI μ44 F a46 + nI 1)))) := by
  subst hp
  have hk2 : k < 12 ∧ (k = 3 ∨ 6 ≤ k) ∧ 256 ≤ F := by
    unfold TF at hF
    omega
  refine t_remove hs l hr (Or.inl rfl) hp2 (fun S' r1 r2 r3 => ⟨hs.k0, gt hs ?_⟩)
  have l0 := l.1
  have lC : Lim (fCeases w (fPl w x)) := by
    refine ⟨?_, fun m hm => ?_, fun q hq => ?_⟩
    · rw [fC_lo (by decide) (by decide), fC_lo (by decide) (by decide), fC_2]
      omega
    · rw [fC_lo (by decide) (by decide)] at hm
      rw [fC_lo (by omega) (by omega), fC_lo (by omega) (by omega), fC_lo (by omega) (by omega), fC_lo (by omega) (by omega)]
      exact l.2.1 m hm
    · rw [fC_2] at hq
      rw [fC_lo (j := 0) (by decide) (by decide), fC_m hq (by decide)]
      refine l.2.2 _ ?_
      split <;> omega
  have := h (fI S' F 4 (nI (w k + 1))) (by
    rw [fC_up (by omega) (by omega) hp2]
    exact Rel_u hF lC r1)
  rw [CT_I (by decide), r2 _ _ (by omega), hk, nI_add, CT_sI (by decide)]
  exact this
theorem t_arrive {Q : mmT → Prop} {p id : Nat} (hs : SS μ a) (l : Lim v) (hr : Rel S v jc 0) (hb : Bd b v) (hb2 : b < 2 ^ 27) (hp : fPl v (nI id) = p) (hp2 : p < v 2) (hid : id = v (146 + 7 * p)) (ht : v (146 + 7 * p + 3) ≤ 4) (h : ∀ S', Rel S' (fArrP v p) jc 0 → Q (CT μ a S')) : w_X8_arrive G (CT μ a S) a (nI id) Q := by
  have l0 := l.1
  have hn := l.2.2 p hp2
  have rM := hr.2.2.2.2.1
  have rP := hr.2.2.2.2.2.1
  have m := rM p hp2
  have mm : ∀ q, q < v 2 → cP S q < 16 ∧ cF S 128 (27 + cP S q) = nI (v (146 + 7 * q)) := fun q hq => ⟨(rP q (by omega)).1, (rM q hq).1.1⟩
  have pc := (mm p hp2).1
  unfold w_X8_arrive
  refine ⟨hs.k0, t_messageWith hs hr.1 mm l0.2.2 ?_⟩
  rw [hp, if_pos hp2]
  refine ⟨fun z => (nomatch z), fun a3 z => ?_⟩
  cases z
  refine ⟨hs.mk pc, ?_⟩
  rw [CT_I (by omega), m.1.2.1]
  refine t_nestAt hs hr.1 l0.1 (fun n hn2 e => ?_) (fun e => absurd rfl (e _ hn))
  have e2 : n = v (146 + 7 * p + 1) := ((nI_eq (by omega) (by omega)).mp e).symm
  refine ⟨fun z => (nomatch z), fun a7 z => ?_⟩
  cases z
  rw [CT_I (by omega), m.1.2.2.2.1, nI_add, CT_sI (by omega)]
  refine gt hs ?_
  have e10 : cF (fI S 131 (27 + cP S p) (nI (v (146 + 7 * p + 3) + 1))) 262 4 = nI (v 10) := by
    rw [fI_o (by omega)]
    exact hr.2.1.2.2.2.2.2.2
  rw [CT_I (k := 4) (by decide), e10, nI_add, CT_sI (k := 4) (by decide)]
  have r1 := Rel_arr1 l hp2 hr
  have l1 := Lim_arr1 l hp2
  have b1 : Bd (b + 1) (fArr1 v p) := by
    have q1 := hb (146 + 7 * p + 3)
    have q2 := hb 10
    exact Bd_up (Bd_up (Bd_mono hb (by omega)) (by omega)) (by omega)
  have w0 : fArr1 v p 0 = v 0 := fArr1_o (by omega) (by omega)
  have w2 : fArr1 v p 2 = v 2 := fArr1_o (by omega) (by omega)
  have wi : ∀ q, fArr1 v p (146 + 7 * q) = v (146 + 7 * q) := fun q => fArr1_o (by omega) (by omega)
  have wn : fArr1 v p (146 + 7 * p + 1) = n := by
    rw [fArr1_o (by omega) (by omega)]
    exact e2.symm
  have wt : fArr1 v p (146 + 7 * p + 3) = v (146 + 7 * p + 3) + 1 := by
    unfold fArr1
    rw [up_n (by omega), up_s]
  have ePw : fPl (fArr1 v p) (nI id) = p := by
    rw [fPl_c w2 (fun q _ => wi q)]
    exact hp
  have hA : fArrP v p = (if fLost (fArr1 v p) p (v (146 + 7 * p + 3) + 1) = false ∧ fKnows (fArr1 v p) n (fArr1 v p (146 + 7 * p + 2)) = true then fCeases (up (fArr1 v p) 8 (fArr1 v p 8 + 1)) p else if fLost (fArr1 v p) p (v (146 + 7 * p + 3) + 1) = false ∧ fArr1 v p (12 + 21 * n + 2) < 8 then fDeliv (fArr1 v p) p n else if v (146 + 7 * p + 3) + 1 = 5 then fCeases (up (fArr1 v p) 9 (fArr1 v p 9 + 1)) p else fNap (fArr1 v p) p (v (146 + 7 * p + 3) + 1)) := by
    unfold fArrP
    rw [e2]
  rw [hA] at h
  clear hA
  obtain ⟨S1, eS⟩ : ∃ S1, S1 = fI (fI S 131 (27 + cP S p) (nI (v (146 + 7 * p + 3) + 1))) 262 4 (nI (v 10 + 1)) := ⟨_, rfl⟩
  rw [← eS] at r1 ⊢
  have eP1 : cP S1 = cP S := by
    rw [eS]
    rfl
  rw [← eP1] at pc ⊢
  have ht2 : v (146 + 7 * p + 3) + 1 ≤ 5 := by omega
  have hid2 : id = fArr1 v p (146 + 7 * p) := by rw [wi]; exact hid
  clear e10 m mm eS eP1
  generalize v (146 + 7 * p + 3) + 1 = t at *
  rw [← w2] at hp2
  rw [← w0] at hn2
  generalize fArr1 v p = w at *
  clear hr rM rP hb l w0 w2 wi ht hid hp hn l0 e2
  have l0 := l1.1
  have rM := r1.2.2.2.2.1
  have rP := r1.2.2.2.2.2.1
  have m := rM p hp2
  have hbk := b1 (146 + 7 * p + 2)
  have hbi := b1 (146 + 7 * p)
  have hb4 := b1 4
  obtain ⟨l8, -⟩ := l1.2.1 n hn2
  have last : (fLost w p t = false ∧ fKnows w n (w (146 + 7 * p + 2)) = true → False) → (fLost w p t = false ∧ w (12 + 21 * n + 2) < 8 → False) → w_X8_arrive_b139 G a Q (nI id) (some (a + (27 + cP S1 p))) (CT μ a S1) := by
    intro z1 z2
    rw [if_neg z1, if_neg z2] at h
    unfold w_X8_arrive_b139 w_X8_arrive_b191 w_X10_shiftedNap
    refine ⟨_, rfl, hs.mk pc, ?_⟩
    rw [CT_I (by omega), m.1.2.2.2.1, wt]
    refine pk_lt t 5 (fun c => ?_) (fun c => ⟨hs.k0, ?_⟩)
    · rw [if_neg (by omega)] at h
      rw [CT_sI (by omega)]
      refine ⟨hs.k0, ?_⟩
      rw [CT_I (by omega), fI_o (by omega), m.1.2.2.2.1, wt, CT_I0, fI_o (by omega), r1.1.2.2.2.1]
      show Q (sI _ _ _ (nI (w 4) + (lN 1 <<< ((nI t).toInt64 &&& 63)).toInt32))
      rw [shN t c, nI_add, CT_sI (by omega)]
      exact h _ (Rel_nap l1 hp2 r1)
    · rw [if_pos (by omega)] at h
      exact t_gone hs l1 r1 ePw hp2 (Or.inr (Or.inr (Or.inr (Or.inr (Or.inl ⟨rfl, rfl⟩))))) r1.2.1.2.2.2.2.1 h
  have deliver : fLost w p t = false → ¬ fKnows w n (w (146 + 7 * p + 2)) = true → w_X8_arrive_b96 G a Q (nI id) (some (a + (27 + cP S1 p))) (some (a + (5 + 3 * n))) 0 (CT μ a S1) := by
    intro z1 z2
    unfold w_X8_arrive_b96
    refine ⟨fun q => absurd rfl q, fun _ => ⟨_, rfl, hs.nk (by omega), t_hasRoom hs (by omega) l8 (r1.2.2.1 n hn2).1.2.2.2.1 ?_⟩⟩
    by_cases c : w (12 + 21 * n + 2) < 8
    · rw [if_pos c]
      refine ⟨fun q => absurd q (by decide), fun _ => ⟨_, rfl, hs.mk pc, ?_⟩⟩
      rw [if_neg (fun q => z2 q.2), if_pos ⟨z1, c⟩] at h
      rw [CT_I (by omega), m.1.2.2.1]
      refine t_accept hs hn2 l1 r1.2.2.1 c (fun S2 q1 q2 q3 => ⟨hs.mk pc, ?_⟩)
      rw [CT_sI (by omega)]
      refine ⟨hs.k0, gt hs ?_⟩
      rw [CT_I (by decide), fI_o (by omega), q1 _ _ (by omega), r1.2.1.2.1, nI_add, CT_sI (by decide)]
      unfold w_X8_arrive_b191
      rw [hid2] at q3
      exact h _ (Rel_deliv l1 hp2 hn2 c r1 q1 q2 q3)
    · rw [if_neg c]
      exact ⟨fun _ => last (fun q => z2 q.2) (fun q => c q.2), fun q => absurd rfl q⟩
  rw [CT_I (by omega), m.1.2.2.2.1, wt]
  refine t_isLost hs l1 r1.1 r1.2.2.1 hp2 pc ⟨m.1.1, m.1.2.1⟩ b1 (by omega) (by omega) ?_
  by_cases c : fLost w p t = true
  · rw [if_pos c]
    refine ⟨fun _ => ?_, fun q => absurd q (by decide)⟩
    unfold w_X8_arrive_b96
    exact ⟨fun _ => last (fun q => by rw [c] at q; exact nomatch q.1) (fun q => by rw [c] at q; exact nomatch q.1), fun q => absurd q (by decide)⟩
  · rw [if_neg c]
    have c0 : fLost w p t = false := by
      cases y : fLost w p t
      · rfl
      · exact absurd y c
    refine ⟨fun q => absurd rfl q, fun _ => ⟨hs.nk (by omega), ?_⟩⟩
    rw [CT_I (by omega), m.1.2.2.1]
    refine t_knows hs hn2 l1 r1.2.2.1 b1 (by omega) (by omega) ?_
    by_cases c2 : fKnows w n (w (146 + 7 * p + 2)) = true
    · rw [if_pos c2]
      rw [if_pos ⟨c0, c2⟩] at h
      refine ⟨fun q => absurd q (by decide), fun _ => ?_⟩
      unfold w_X8_arrive_b191
      exact t_gone hs l1 r1 ePw hp2 (Or.inr (Or.inr (Or.inr (Or.inl ⟨rfl, rfl⟩)))) r1.2.1.2.2.2.1 h
    · rw [if_neg c2]
      exact ⟨fun _ => deliver c0 c2, fun q => absurd rfl q⟩
end ARR3

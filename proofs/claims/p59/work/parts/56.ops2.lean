section OPS2
variable {G : mgT} {μ : mmT} {a m : Nat} {S : cT} {v w : Nat → Nat} {p n i d e t c b : Nat}
theorem InvA_c (h : InvA v i d e) (l : Lim w) (h3 : ∀ j, j < 4 → w j = v j) (hN : ∀ n d, n < v 0 → 2 ≤ d → d < 11 → w (12 + 21 * n + d) = v (12 + 21 * n + d)) (hM : ∀ j, 138 ≤ j → w j = v j) : InvA w i d e := by
  obtain ⟨lv, a1, a2, a3, a4, a5, a6⟩ := h
  have s8 := fun m hm => (lv.2.1 m hm).1
  have D2 := h3 2 (by omega)
  have D1 := h3 1 (by omega)
  have D0 := h3 0 (by omega)
  have D3 := h3 3 (by omega)
  have es : ∀ x, cS w x = cS v x := fun x => by
    unfold cS
    rw [D2]
    exact cnt_c _ (fun k hk => by rw [hM _ (by omega)])
  refine ⟨l, ⟨fun q hq => ?_, fun q r hqr hr => ?_⟩, fun q hq => ?_, ⟨fun c hc => ?_, fun c e hce he => ?_⟩, ⟨fun m k hm hk => ?_, fun m k j hm hkj hj => ?_⟩, ?_, ?_⟩
  · rw [D2] at hq
    rw [hM _ (by omega), D3]
    exact a1.1 q hq
  · rw [D2] at hr
    rw [hM _ (by omega), hM _ (by omega)]
    exact a1.2 q r hqr hr
  · rw [D2] at hq
    rw [hM _ (by omega), hM _ (by omega), hM _ (by omega), hM _ (by omega), hM _ (by omega)]
    exact a2 q hq
  · rw [D1] at hc
    rw [hM _ (by omega), hM _ (by omega)]
    intro z
    obtain ⟨r1, q, hq, e1, e2⟩ := a3.1 c hc z
    exact ⟨r1, q, by rw [D2]; exact hq, by rw [hM _ (by omega)]; exact e1, by rw [hM _ (by omega)]; exact e2⟩
  · rw [D1] at he
    rw [hM _ (by omega), hM _ (by omega)]
    exact a3.2 c e hce he
  · rw [D0] at hm
    have := s8 m hm
    rw [hN m 2 hm (by omega) (by omega)] at hk
    have en := hN m (3 + k) hm (by omega) (by omega)
    rw [← Nat.add_assoc] at en
    rw [en]
    obtain ⟨q, hq, e1, e2, e3⟩ := a4.1 m k hm hk
    exact ⟨q, by rw [D2]; exact hq, by rw [hM _ (by omega)]; exact e1, by rw [hM _ (by omega)]; exact e2, by rw [hM _ (by omega)]; exact e3⟩
  · rw [D0] at hm
    have := s8 m hm
    rw [hN m 2 hm (by omega) (by omega)] at hj
    have en := hN m (3 + k) hm (by omega) (by omega)
    have ej := hN m (3 + j) hm (by omega) (by omega)
    rw [← Nat.add_assoc] at en ej
    rw [en, ej]
    exact a4.2 m k j hm hkj hj
  · have ec : cC w = cC v := by
      unfold cC
      rw [D1]
      exact cnt_c _ (fun k hk => by rw [hM _ (by omega)])
    rw [es, ec]
    exact a5
  · have en : sN w = sN v := by
      unfold sN
      rw [D0]
      exact su_c _ (fun k hk => hN k 2 hk (by omega) (by omega))
    rw [es, en]
    exact a6
theorem Lim_forget (l : Lim v) (hn : n < v 0) : Lim (fForget v n) := by
  have l0 := l.1
  refine ⟨?_, fun q hq => ?_, fun q hq => ?_⟩
  · rw [fF_o (fun d _ _ => by omega), fF_o (fun d _ _ => by omega), fF_o (fun d _ _ => by omega)]
    exact l0
  · rw [fF_o (fun d _ _ => by omega)] at hq
    have := l.2.1 q hq
    rw [fF_o (j := 12 + 21 * q + 2) (fun d _ _ => by omega), fF_o (j := 12 + 21 * q) (fun d _ _ => by omega), fF_o (j := 12 + 21 * q + 1) (fun d _ _ => by omega)]
    by_cases y : q = n
    · subst y
      rw [fF_s (by decide) (by decide)]
      omega
    · rw [fF_o (j := 12 + 21 * q + 11) (fun d _ _ => by omega)]
      exact this
  · rw [fF_o (fun d _ _ => by omega)] at hq
    rw [fF_o (fun d _ _ => by omega), fF_o (fun d _ _ => by omega)]
    exact l.2.2 q hq
theorem J_forget (h : J b 16 v) (hn : n < v 0) : J b 16 (fForget v n) := by
  have l0 := h.1.1.1
  refine ⟨InvA_c h.1 (Lim_forget h.1.1 hn) (fun j hj => fF_o (fun d _ _ => by omega)) (fun q d hq h2 h11 => fF_o (fun d2 _ _ => by omega)) (fun j hj => fF_o (fun d _ _ => by omega)), ?_, fun j => ?_⟩
  · have := h.2.1
    unfold tot at this ⊢
    rw [fF_o (fun d _ _ => by omega), fF_o (fun d _ _ => by omega), fF_o (fun d _ _ => by omega), fF_o (fun d _ _ => by omega), fF_o (fun d _ _ => by omega), fF_o (fun d _ _ => by omega)]
    exact this
  · unfold fForget
    split
    · omega
    · exact h.2.2 j
def fHire (v : Nat → Nat) : Nat → Nat := up (up (up v (138 + 2 * v 1) 0) (138 + 2 * v 1 + 1) 0) 1 (v 1 + 1)
theorem fH_o {j : Nat} (h1 : j ≠ 1) (h2 : j ≠ 138 + 2 * v 1) (h3 : j ≠ 138 + 2 * v 1 + 1) : fHire v j = v j := by
  unfold fHire
  rw [up_n h1, up_n h3, up_n h2]
theorem fH_1 : fHire v 1 = v 1 + 1 := up_s _ _ _
theorem fH_c : fHire v (138 + 2 * v 1) = 0 := by
  unfold fHire
  rw [up_n (by omega), up_n (by omega), up_s]
theorem t_hireCrow {Q : Int32 → mmT → Prop} (hs : SS μ a) (hr : Rel S v 4 16) (l : Lim v) (h1 : v 1 < 4 → ∀ S', Rel S' (fHire v) 4 16 → Q (nI (v 1)) (CT μ a S')) (h0 : v 1 = 4 → Q (-2) (CT μ a S)) : w_X8_hireCrow G (CT μ a S) a Q := by
  have l0 := l.1
  obtain ⟨rS, rT, rN, rC, rM, rP, rZ⟩ := hr
  unfold w_X8_hireCrow
  rw [CT_I0, rS.2.1]
  refine ⟨hs.k0, pk_lt (v 1) 4 (fun c => gc hs c (gco hs c ?_)) (fun c => h0 (by omega))⟩
  rw [CT_sI (by omega), CT_I0, fI_o (by omega), rS.2.1, nI_add, CT_sI0]
  refine h1 c _ ⟨⟨?_, ?_, ?_, ?_, ?_⟩, RelT_c rT (fun j z y => fH_o (by omega) (by omega) (by omega)) (fun F z y => by rw [fI_o (by omega), fI_o (by omega)]), RelN_c rN l (fH_o (by omega) (by omega) (by omega)) (fun j z y => fH_o (by omega) (by omega) (by omega)) (fun F k z y => by rw [fI_o (by omega), fI_o (by omega)]) rfl, fun f hf => ?_, RelM_c rM l0.2.2 (fH_o (by omega) (by omega) (by omega)) (fH_o (by omega) (by omega) (by omega)) (fun j z => fH_o (by omega) (by omega) (by omega)) rfl (fun F k z y => by rw [fI_o (by omega), fI_o (by omega)]), RelP_c rP rfl, fun k hk => ?_, fun f hf => ?_⟩
  · rw [fI_o (by omega), fI_o (by omega), fH_o (by omega) (by omega) (by omega)]; exact rS.1
  · rw [fI_s, fH_1]
  · rw [fI_o (by omega), fI_o (by omega), fH_o (by omega) (by omega) (by omega)]; exact rS.2.2.1
  · rw [fI_o (by omega), fI_o (by omega), fH_o (by omega) (by omega) (by omega)]; exact rS.2.2.2.1
  · rw [fI_o (by omega), fI_o (by omega), fH_o (by omega) (by omega) (by omega)]; exact rS.2.2.2.2
  · rw [fH_1] at hf
    by_cases y : f = v 1
    · subst y
      rw [fH_c, fI_o (by omega), fI_s]
      exact ⟨rfl, fun z => absurd rfl z⟩
    · rw [fH_o (j := 138 + 2 * f) (by omega) (by omega) (by omega), fH_o (j := 138 + 2 * f + 1) (by omega) (by omega) (by omega), fH_o (j := 4) (by omega) (by omega) (by omega), fI_o (by omega), fI_o (by omega), fI_o (by omega), fI_o (by omega), fI_o (by omega), fI_o (by omega)]
      exact rC f (by omega)
  · rw [fI_o (by omega), fI_o (by omega)]
    exact rZ.1 k hk
  · rw [fI_o (by omega), cF_fI]
    split
    · exact Or.inl rfl
    · exact rZ.2 f hf
theorem J_hire (h : J b 16 v) (hc : v 1 < 4) (hb : 119 ≤ b) : J b 16 (fHire v) := by
  obtain ⟨⟨l, a1, a2, a3, a4, a5, a6⟩, hT, hB⟩ := h
  have l0 := l.1
  have u : ∀ j, j < 138 ∨ 146 ≤ j → j ≠ 1 → fHire v j = v j := fun j y z => fH_o z (by omega) (by omega)
  have uc : ∀ f, f < v 1 → fHire v (138 + 2 * f) = v (138 + 2 * f) ∧ fHire v (138 + 2 * f + 1) = v (138 + 2 * f + 1) := fun f hf => ⟨fH_o (by omega) (by omega) (by omega), fH_o (by omega) (by omega) (by omega)⟩
  have D2 := u 2 (by omega) (by omega)
  have D0 := u 0 (by omega) (by omega)
  have D3 := u 3 (by omega) (by omega)
  have es : ∀ x, cS (fHire v) x = cS v x := fun x => by
    unfold cS
    rw [D2]
    exact cnt_c _ (fun k hk => by rw [u _ (by omega) (by omega)])
  refine ⟨⟨⟨?_, fun m hm => ?_, fun q hq => ?_⟩, ⟨fun q hq => ?_, fun q r hqr hr => ?_⟩, fun q hq => ?_, ⟨fun c hc2 => ?_, fun c e hce he => ?_⟩, ⟨fun m k hm hk => ?_, fun m k j hm hkj hj => ?_⟩, ?_, ?_⟩, ?_, ?_⟩
  · rw [D0, D2, fH_1]
    omega
  · rw [D0] at hm
    rw [u _ (by omega) (by omega), u _ (by omega) (by omega), u _ (by omega) (by omega), u _ (by omega) (by omega)]
    exact l.2.1 m hm
  · rw [D2] at hq
    rw [D0, u _ (by omega) (by omega)]
    exact l.2.2 q hq
  · rw [D2] at hq
    rw [u _ (by omega) (by omega), D3]
    exact a1.1 q hq
  · rw [D2] at hr
    rw [u _ (by omega) (by omega), u _ (by omega) (by omega)]
    exact a1.2 q r hqr hr
  · rw [D2] at hq
    rw [u _ (by omega) (by omega), u _ (by omega) (by omega), u _ (by omega) (by omega), u _ (by omega) (by omega), u _ (by omega) (by omega)]
    exact a2 q hq
  · rw [fH_1] at hc2
    by_cases y : c = v 1
    · subst y
      rw [fH_c]
      exact fun z => absurd rfl z
    · rw [(uc c (by omega)).1, (uc c (by omega)).2]
      intro z
      obtain ⟨r1, q, hq, e1, e2⟩ := a3.1 c (by omega) z
      exact ⟨r1, q, by rw [D2]; exact hq, by rw [u _ (by omega) (by omega)]; exact e1, by rw [u _ (by omega) (by omega)]; exact e2⟩
  · rw [fH_1] at he
    rw [(uc c (by omega)).1]
    intro z
    by_cases y : e = v 1
    · subst y
      rw [fH_c]
      exact z
    · rw [(uc e (by omega)).1]
      exact a3.2 c e hce (by omega) z
  · rw [D0] at hm
    have := (l.2.1 m hm).1
    rw [u _ (by omega) (by omega)] at hk
    rw [u (12 + 21 * m + 3 + k) (by omega) (by omega)]
    obtain ⟨q, hq, e1, e2, e3⟩ := a4.1 m k hm hk
    exact ⟨q, by rw [D2]; exact hq, by rw [u _ (by omega) (by omega)]; exact e1, by rw [u _ (by omega) (by omega)]; exact e2, by rw [u _ (by omega) (by omega)]; exact e3⟩
  · rw [D0] at hm
    have := (l.2.1 m hm).1
    rw [u _ (by omega) (by omega)] at hj
    rw [u _ (by omega) (by omega), u _ (by omega) (by omega)]
    exact a4.2 m k j hm hkj hj
  · have ec : cC (fHire v) = cC v := by
      unfold cC
      rw [fH_1]
      show cnt _ (v 1) + (if decide (fHire v (138 + 2 * v 1) ≠ 0) then 1 else 0) = _
      rw [fH_c, cnt_c (q := fun c => decide (v (138 + 2 * c) ≠ 0)) (v 1) (fun k hk => by rw [(uc k hk).1])]
      rfl
    rw [es, ec]
    exact a5
  · have en : sN (fHire v) = sN v := by
      unfold sN
      rw [D0]
      exact su_c _ (fun k hk => by rw [u _ (by omega) (by omega)])
    rw [es, en]
    exact a6
  · unfold tot at hT ⊢
    rw [D2, D3, u 7 (by omega) (by omega), u 8 (by omega) (by omega), u 9 (by omega) (by omega), u 11 (by omega) (by omega)]
    exact hT
  · exact Bd_up (Bd_up (Bd_up hB (by omega)) (by omega)) (by omega)
end OPS2

section OPS6
variable {G : mgT} {μ : mmT} {a m : Nat} {S : cT} {v w : Nat → Nat} {p n i d e t c b x y k : Nat}
theorem J_cancel (h : J b 16 v) (hp : p < v 2) (h1 : v (146 + 7 * p + 4) ≠ 102) (h2 : v (146 + 7 * p + 4) ≠ 100) : J (b + 1) 16 (fCeases (up v 11 (v 11 + 1)) p) := by
  obtain ⟨hA, hT, hB⟩ := h
  have l0 := hA.1.1
  have b11 := hB 11
  rw [fC_up (by omega) (by omega) hp]
  refine ⟨InvA_up (InvA_ceases hA hp (Or.inr (by omega)) (fun c hc z => ?_) (fun n k hn hk z => ?_) (by rw [if_neg h1]) (by rw [if_neg h2])) (by omega), ?_, Bd_up (Bd_mono (Bd_ceases hB) (by omega)) (by omega)⟩
  · obtain ⟨-, q, hq, e1, e2⟩ := hA.2.2.2.1.1 c hc (by omega)
    have := ids_inj hA.2.1 hq hp (by omega)
    subst this
    exact h1 e2
  · obtain ⟨q, hq, e1, e2, -⟩ := hA.2.2.2.2.1.1 n k hn hk
    have := ids_inj hA.2.1 hq hp (e1.trans z)
    subst this
    exact h2 e2
  · unfold tot at hT ⊢
    have c2 : fCeases v p 2 = v 2 - 1 := fC_2
    rw [up_n (show 2 ≠ 11 by omega), up_n (show 3 ≠ 11 by omega), up_n (show 7 ≠ 11 by omega), up_n (show 8 ≠ 11 by omega), up_n (show 9 ≠ 11 by omega), up_s, c2, fC_lo (show 3 < 146 by omega) (by omega), fC_lo (show 7 < 146 by omega) (by omega), fC_lo (show 8 < 146 by omega) (by omega), fC_lo (show 9 < 146 by omega) (by omega)]
    omega
theorem t_withdraw {Q : Int32 → mmT → Prop} {x : Int32} (hs : SS μ a) (hr : Rel S v 4 16) (l : Lim v) (hb : Bd b v) (hb2 : b < 2 ^ 31)
    (h1 : fPl v x < v 2 → v (146 + 7 * fPl v x + 4) ≠ 102 → v (146 + 7 * fPl v x + 4) ≠ 100 → ∀ S', Rel S' (fCeases (up v 11 (v 11 + 1)) (fPl v x)) 4 16 → Q (nI (v 2 - 1)) (CT μ a S'))
    (h2 : fPl v x < v 2 → v (146 + 7 * fPl v x + 4) = 102 ∨ v (146 + 7 * fPl v x + 4) = 100 → Q (-2) (CT μ a S)) (h0 : ¬ fPl v x < v 2 → Q (-4) (CT μ a S)) : w_X8_withdraw G (CT μ a S) a x Q := by
  have l0 := l.1
  have hr0 := hr
  obtain ⟨rS, rT, rN, rC, rM, rP, rZ⟩ := hr
  unfold w_X8_withdraw w_X8_withdraw_b31
  refine ⟨hs.k0, t_messageWith hs rS (fun q hq => ⟨(rP q (by omega)).1, (rM q hq).1.1⟩) l0.2.2 ?_⟩
  by_cases hp : fPl v x < v 2
  · rw [if_pos hp]
    have pc := (rP _ (show fPl v x < 16 by omega)).1
    have st := (rM _ hp).1.2.2.2.2
    have bs := hb (146 + 7 * fPl v x + 4)
    refine ⟨fun z => (nomatch z), fun a3 z => ?_⟩
    cases z
    rw [CT_I (by omega), st]
    refine ⟨hs.mk pc, pk_eq (v (146 + 7 * fPl v x + 4)) 102 (fun c => h2 hp (Or.inl c)) (fun c => ⟨fun c2 => ?_, fun c2 => h2 hp (Or.inr ((nI_eq (by omega) (by omega)).mp c2))⟩)⟩
    have c3 : v (146 + 7 * fPl v x + 4) ≠ 100 := fun z => c2 (by rw [z])
    refine t_remove hs l hr0 (Or.inr (Nat.le_refl _)) hp (fun S' r1 r2 r3 => ⟨hs.k0, gt hs ?_⟩)
    have r := Rel_u (F := 261) (k := 11) (x := v 11 + 1) (Or.inr (Or.inr (Or.inr (Or.inr (Or.inr (Or.inl ⟨rfl, rfl⟩)))))) (Lim_ceases l hp) r1
    have e230 := r1.1.2.2.1
    rw [CT_I (k := 4) (by decide), r2 _ _ (by omega), rT.2.2.2.2.2.1, nI_add, CT_sI (k := 4) (by decide), CT_I0, fI_o (by omega), e230, fC_2]
    refine h1 hp c c3 _ ?_
    rw [fC_up (by omega) (by omega) hp]
    exact r
  · rw [if_neg hp]
    exact ⟨fun _ => h0 hp, fun a3 z => nomatch z⟩
end OPS6

/-! THE CLASS'S HISTORY -/
def vP (ct : Nat) (V : Nat → Nat → Nat) (v0 : Nat → Nat) : Nat → Nat → Nat := if ct = 8 then fun k => if k = 7 then v0 else V (k + 1) else fun k => if k = ct then v0 else V k
def ctP (ct : Nat) : Nat := if ct = 8 then 8 else ct + 1
def HC (μ : mmT) (z nx ct : Nat) (V : Nat → Nat → Nat) : Prop := (mI μ 97 (z + 173) = nI nx ∧ mI μ 98 (z + 173) = nI ct ∧ nx < 8 ∧ ct ≤ 8) ∧ ∀ i, i < 8 → ∃ S, BT μ (z + (175 + 43 * i)) S ∧ (RelP S ∧ RelZ S) ∧ ∀ k, k < ct → (nx + 8 - ct + k) % 8 = i → Rel S (V k) 4 16
section HIST
variable {G : mgT} {μ ν ρ : mmT} {z a b c m i F nx ct : Nat} {S S2 : cT} {v w v0 : Nat → Nat} {V : Nat → Nat → Nat} {P P2 : Nat → Prop} {B N : Nat}
theorem HC_ag (h : HC μ z nx ct V) (g : Ag z μ ν P) (hP : ∀ b, z + 173 ≤ b → b < z + 519 → ¬ P b) : HC ν z nx ct V := by
  refine ⟨?_, fun i hi => ?_⟩
  · rw [g.I (hP _ (by omega) (by omega)), g.I (hP _ (by omega) (by omega))]
    exact h.1
  · obtain ⟨S, q1, q2⟩ := h.2 i hi
    exact ⟨S, BT_ag q1 g (fun b h1 h2 => hP b (by omega) (by omega)), q2⟩
theorem t_remember {Q : mmT → Prop} (hT : ST μ z) (h : HC μ z nx ct V) (hb : St μ (z + 44) v0) (l : Lim v0) (hq : ∀ ν, Ag z μ ν (fun b => z + 173 ≤ b ∧ b < z + 519) → HC ν z ((nx + 1) % 8) (ctP ct) (vP ct V v0) → Q ν) : w_X4_remember G μ (z + 173) (some (z + 44)) Q := by
  obtain ⟨⟨e1, e2, hn, hc⟩, hr⟩ := h
  unfold w_X4_remember
  refine ⟨hT.h, _, hT.h1, hT.h2, ?_, z + (175 + 43 * nx), ?_, (hT.s5 hn).1, ?_⟩
  · rw [e1, hT.h3]
    exact vp_in_nI hn (by omega)
  · rw [e1, cl (by omega)]
    exact hT.h4 hn
  · obtain ⟨S, q1, q2, -⟩ := hr nx hn
    refine w_copy (z := z) (v := v0) (R0_5 hn) (hT.s5 hn) hT.s2 (by omega) ⟨S, q1, q2⟩ hb l (fun ν g s => ?_)
    have f1 : mI ν 97 (z + 173) = nI nx := (g.I (by omega)).trans e1
    have f2 : mI ν 98 (z + 173) = nI ct := (g.I (by omega)).trans e2
    rw [f1, nI_add, pk_rem (by omega) (by omega) (by omega), sI_o (by omega), f2]
    refine ⟨(congrFun g.k _).trans hT.h, ?_⟩
    have hnx : (nx + 1) % 8 < 8 := Nat.mod_lt _ (by decide)
    have key : ∀ (ρ : mmT) (ct' : Nat) (P : Nat → Prop), ct' = ctP ct → Ag z ν ρ P → (∀ b, P b → b = z + 173) → mI ρ 97 (z + 173) = nI ((nx + 1) % 8) → mI ρ 98 (z + 173) = nI ct' → Q ρ := by
      intro ρ ct' P hct g2 hP r1 r2
      subst hct
      have hct2 : ctP ct ≤ 8 := by unfold ctP; split <;> omega
      refine hq ρ ((g.tr g2).up (fun b hb => ?_)) ⟨⟨r1, r2, hnx, hct2⟩, fun i hi => ?_⟩
      · rcases hb with hb | hb
        · omega
        · have := hP b hb
          omega
      · by_cases hin : i = nx
        · subst hin
          obtain ⟨S', t1, t2⟩ := s
          refine ⟨S', BT_ag t1 g2 (fun b h1 h2 q => by have := hP b q; omega), ⟨t2.2.2.2.2.2.1, t2.2.2.2.2.2.2⟩, fun k hk e => ?_⟩
          unfold ctP at hk e
          unfold vP
          by_cases c8 : ct = 8
          · rw [if_pos c8] at hk e ⊢
            have : k = 7 := by omega
            rw [if_pos this]
            exact t2
          · rw [if_neg c8] at hk e ⊢
            have : k = ct := by omega
            rw [if_pos this]
            exact t2
        · obtain ⟨S', t1, t2, t3⟩ := hr i hi
          refine ⟨S', BT_ag (BT_ag t1 g (fun b h1 h2 q => by omega)) g2 (fun b h1 h2 q => by have := hP b q; omega), t2, fun k hk e => ?_⟩
          unfold ctP at hk e
          unfold vP
          by_cases c8 : ct = 8
          · rw [if_pos c8] at hk e ⊢
            rw [if_neg (show ¬ k = 7 by omega)]
            exact t3 (k + 1) (by omega) (by omega)
          · rw [if_neg c8] at hk e ⊢
            rw [if_neg (show ¬ k = ct by omega)]
            exact t3 k (by omega) (by omega)
    unfold w_X4_remember_b45
    refine pk_le 8 ct (fun c8 => ?_) (fun c8 => ?_)
    · have : ct = 8 := by omega
      refine key _ ct (fun b => b = z + 173) (by unfold ctP; rw [if_pos this]; exact this) Ag_sI (fun b h => h) sI_e ?_
      rw [sI_o (by omega)]
      exact f2
    · rw [nI_add]
      refine key _ (ct + 1) _ (by unfold ctP; rw [if_neg (by omega)]) (Ag_sI.tr Ag_sI) (fun b h => h.elim id id) ?_ sI_e
      rw [sI_o (by omega)]
      exact sI_e
theorem t_takeBack {Q : mmT → Prop} (hT : ST μ z) (h : HC μ z nx ct V) (h1 : 1 ≤ ct) (hb : Sf μ (z + 1)) (l : Lim (V (ct - 1))) (hq : ∀ ν, Ag z μ ν (fun b => (z + 1 ≤ b ∧ b < z + 44) ∨ b = z + 173) → St ν (z + 1) (V (ct - 1)) → HC ν z ((nx + 7) % 8) (ct - 1) V → Q ν) : w_X4_takeBackInto G μ (z + 173) (some (z + 1)) Q := by
  obtain ⟨⟨e1, e2, hn, hc⟩, hr⟩ := h
  have hnx : (nx + 7) % 8 < 8 := Nat.mod_lt _ (by decide)
  unfold w_X4_takeBackInto
  rw [e1, nI_add, pk_sub (by omega), pk_rem (by omega) (by omega) (by omega), show nx + 8 - 1 = nx + 7 by omega, sI_o (b := z + 173) (G' := 98) (by omega), e2, pk_sub h1]
  have g : Ag z μ (sI (sI μ 97 (z + 173) (nI ((nx + 7) % 8))) 98 (z + 173) (nI (ct - 1))) (fun b => b = z + 173) := (Ag_sI.tr Ag_sI).up (fun b h => h.elim id id)
  have f1 : mI (sI (sI μ 97 (z + 173) (nI ((nx + 7) % 8))) 98 (z + 173) (nI (ct - 1))) 97 (z + 173) = nI ((nx + 7) % 8) := (sI_o (by omega)).trans sI_e
  have f2 : mI (sI (sI μ 97 (z + 173) (nI ((nx + 7) % 8))) 98 (z + 173) (nI (ct - 1))) 98 (z + 173) = nI (ct - 1) := sI_e
  have hT2 := hT.ag g
  generalize sI (sI μ 97 (z + 173) (nI ((nx + 7) % 8))) 98 (z + 173) (nI (ct - 1)) = ν at *
  refine ⟨hT.h, _, hT2.h1, hT2.h2, ?_, z + 1, rfl, hT2.s1.1, ?_⟩
  · rw [f1, hT2.h3]
    exact vp_in_nI hnx (by omega)
  · rw [f1, cl (by omega), hT2.h4 hnx]
    obtain ⟨S, q1, q2, q3⟩ := hr _ hnx
    refine w_copy (z := z) (v := V (ct - 1)) R0_1 hT2.s1 (hT2.s5 hnx) (by omega) (Sf_ag hb g (fun b h1 h2 q => by omega)) ⟨S, BT_ag q1 g (fun b h1 h2 q => by omega), q3 _ (by omega) (by omega)⟩ l (fun ρ g2 s => ?_)
    refine hq ρ ((g.tr g2).up (fun b hb => by omega)) s ⟨⟨(g2.I (by omega)).trans f1, (g2.I (by omega)).trans f2, hnx, by omega⟩, fun i hi => ?_⟩
    obtain ⟨S', t1, t2, t3⟩ := hr i hi
    exact ⟨S', BT_ag (BT_ag t1 g (fun b h1 h2 q => by omega)) g2 (fun b h1 h2 q => by omega), t2, fun k hk e => t3 k (by omega) (by omega)⟩
end HIST

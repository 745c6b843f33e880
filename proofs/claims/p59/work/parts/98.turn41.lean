/-! THE LAW: MEAN AND RATE -/
def sAt (v : Nat → Nat) : Nat := su (fun p => v (146 + 7 * p + 3)) (v 2)
section LAW41
variable {G : mgT} {μ ν ρ σ : mmT} {z a b c c2 m i n k q p F t L ct j o : Nat} {S : cT} {v : Nat → Nat} {V : Nat → Nat → Nat} {R : rT} {x : Int32} {B : Nat} {xs : Nat → Int32} {K : Option Nat → Option Nat → Option Nat → Option Nat → Int32 → Nat → mmT → Prop}
theorem su_le {f : Nat → Nat} {M : Nat} : ∀ n, (∀ k, k < n → f k ≤ M) → su f n ≤ M * n
  | 0, _ => Nat.zero_le _
  | n + 1, h => by
    have := su_le n (fun k hk => h k (by omega))
    have h2 := h n (by omega)
    show su f n + f n ≤ M * (n + 1)
    rw [Nat.mul_succ]
    omega
theorem sAt_le (h : J B 16 v) : sAt v ≤ 80 := by
  have l2 := h.1.1.1.2.2
  have := su_le (f := fun p => v (146 + 7 * p + 3)) (M := 5) (v 2) (fun k hk => (h.1.2.2.1 k hk).2.2.1)
  show su _ _ ≤ 80
  omega
theorem t_sum {Q : Int32 → Prop} (hs : SS μ a) (hr : Rel S v 4 16) (l : Lim v) (h : Q (nI (sAt v))) : w_X8_sumOfAttempts G (CT μ a S) a Q := by
  have l2 := l.1.2.2
  unfold w_X8_sumOfAttempts
  refine (lpE (W := fun n i => w_X8_sumOfAttempts_l4 G (CT μ a S) a Q n (nI (su (fun p => v (146 + 7 * p + 3)) i)) (nI i)) (N := v 2) ?_ (Nat.zero_le _)).imp fun n hn => hn
  intro n i hi ih
  show w_X8_sumOfAttempts_b4 G (CT μ a S) a Q _ _ (nI i)
  unfold w_X8_sumOfAttempts_b4
  rw [CT_I0, hr.1.2.2.1]
  refine ⟨hs.k0, pk_le (v 2) i (fun c => ?_) (fun hl => gm hs (by omega) (gmo hs (by omega) (rel_P hr l hl) ?_))⟩
  · have : i = v 2 := by omega
    rw [this]
    exact h
  · have hc := rel_P hr l hl
    have := ih hl
    rw [CT_I (by omega), (hr.2.2.2.2.1 i hl).1.2.2.2.1, nI_add, nI_add]
    exact this
theorem meanF {s n : Nat} (hs : s < 2 ^ 31) (h0 : 0 < n) (hn : n < 2 ^ 31) : vf_n64 (FP.ddiv (FP.i2d (nI s)) (FP.i2d (nI n))) ∧ FP.dcmp (FP.ddiv (FP.i2d (nI s)) (FP.i2d (nI n))) (FP.ddiv (FP.i2d (nI s)) (FP.i2d (nI n))) = some .eq ∧ (∀ (G : mgT) (μ : mmT) (Q : Int64 → Prop), Q (FP.ddiv (FP.i2d (nI s)) (FP.i2d (nI n))).toInt64 → w_X10_bitsOf G μ (FP.ddiv (FP.i2d (nI s)) (FP.i2d (nI n))) (nI 52) (nI 1023) Q) := by
  by_cases c : s = 0
  · subst c
    rw [ddiv_0 h0 hn]
    exact ⟨n64_0, dcmp_00, fun G μ Q h => t_bits0 h⟩
  · obtain ⟨E, T, e, h1, h2, h3⟩ := ddiv_p (a := s) (b := n) (by omega) hs h0 hn
    rw [e]
    exact ⟨n64 h2 h3, cmp_s h1 h2 h3, fun G μ Q h => t_bits64 h1 h2 h3 h⟩
theorem rateF {s n : Nat} (hs : s < 2 ^ 31) (h0 : 0 < n) (hn : n < 2 ^ 31) : vf_n32 (FP.fdiv (FP.i2f (nI s)) (FP.i2f (nI n))) ∧ FP.fcmp (FP.fdiv (FP.i2f (nI s)) (FP.i2f (nI n))) (FP.fdiv (FP.i2f (nI s)) (FP.i2f (nI n))) = some .eq ∧ vf_n64 (FP.f2d (FP.fdiv (FP.i2f (nI s)) (FP.i2f (nI n)))) ∧ FP.dcmp (FP.f2d (FP.fdiv (FP.i2f (nI s)) (FP.i2f (nI n)))) (FP.f2d (FP.fdiv (FP.i2f (nI s)) (FP.i2f (nI n)))) = some .eq ∧ (∀ (G : mgT) (μ : mmT) (Q : Int64 → Prop), (∀ u : Int64, u.toInt32 = (FP.fdiv (FP.i2f (nI s)) (FP.i2f (nI n))).toInt32 → Q u) → w_X10_bitsOf G μ (FP.f2d (FP.fdiv (FP.i2f (nI s)) (FP.i2f (nI n)))) (nI 23) (nI 127) Q) := by
  by_cases c : s = 0
  · subst c
    rw [fdiv_0 h0 hn, f2d_0]
    exact ⟨n32_0, fcmp_00, n64_0, dcmp_00, fun G μ Q h => t_bits0 (h _ (by decide))⟩
  · obtain ⟨E, T, e, h1, h2, h3⟩ := fdiv_p (a := s) (b := n) (by omega) hs h0 hn
    rw [e, f2d_p h1 h2 h3]
    exact ⟨n32 h2 h3, fcmp_s h1 h2 h3, n64 (by omega) (by omega), cmp_s (by omega) (by omega) (by omega), fun G μ Q h => t_bits32 h1 h2 h3 (h _ (lN_i _))⟩
/-- the class's mean, its rate -/
theorem t_meanOf {Q : UInt64 → Prop} (hT : ST μ z) (hs : St μ (z + 1) v) (h : J B 16 v) (h0 : 0 < v 2) (hq : Q (FP.ddiv (FP.i2d (nI (sAt v))) (FP.i2d (nI (v 2))))) : w_X10_meanOfAttempts G μ z Q := by
  have l2 := h.1.1.1.2.2
  have s8 := sAt_le h
  obtain ⟨S, e1, r1⟩ := hs
  have key : w_X10_meanOfAttempts G (CT μ (z + 1) S) z Q := by
    unfold w_X10_meanOfAttempts
    refine ⟨hT.kz, _, hT.z1, hT.s1.1, t_sum hT.s1 r1 h.1.1 ?_⟩
    rw [CT_I0, r1.1.2.2.1]
    exact ⟨(meanF (by omega) h0 (by omega)).1, hq⟩
  rw [BT_self e1] at key
  exact key
theorem st_230 (hs : St μ (z + 1) v) : mI μ 230 (z + 1) = nI (v 2) := hs.elim (fun S q => (q.1.1 230 0 (by decide)).trans q.2.1.2.2.1)
theorem st_257 (hs : St μ (z + 1) v) : mI μ 257 (z + 1 + 4) = nI (v 6) ∧ mI μ 262 (z + 1 + 4) = nI (v 10) := hs.elim (fun S q => ⟨(q.1.1 257 4 (by decide)).trans q.2.2.1.2.1, (q.1.1 262 4 (by decide)).trans q.2.2.1.2.2.2.2.2.2⟩)
theorem t_rate {Q : UInt32 → Prop} (hT : ST μ z) (hs : St μ (z + 1) v) (h6 : v 6 < 2 ^ 31) (h0 : 0 < v 10) (h1 : v 10 < 2 ^ 31) (hq : Q (FP.fdiv (FP.i2f (nI (v 6))) (FP.i2f (nI (v 10))))) : w_X10_rateOfDeliveries G μ z Q := by
  obtain ⟨e6, e10⟩ := st_257 hs
  unfold w_X10_rateOfDeliveries
  refine ⟨hT.kz, _, hT.z1, hT.s1.1, _, hT.s1.2.1.2.2.2, hT.s1.2.2.1.2.2.2, ?_⟩
  rw [e6, e10]
  exact ⟨(rateF h6 h0 h1).1, hq⟩
end LAW41

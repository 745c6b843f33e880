section OPS8
variable {G : mgT} {μ : mmT} {a m : Nat} {S : cT} {v w : Nat → Nat} {p n i d e t c b x y k : Nat}
theorem t_handOver {Q : Int32 → mmT → Prop} {x : Int32} (hs : SS μ a) (hr : Rel S v 4 16) (h : J b 16 v) (hb2 : b < 2 ^ 30)
    (h1 : ∀ n, n < v 0 → x = nI n → 1 ≤ v (12 + 21 * n + 2) → ∀ S', Rel S' (fRead v n) 4 16 → Q (nI (v (12 + 21 * n + 3))) (CT μ a S'))
    (h2 : ∀ n, n < v 0 → x = nI n → v (12 + 21 * n + 2) = 0 → Q (-4) (CT μ a S)) (h0 : (∀ n, n < v 0 → x ≠ nI n) → Q (-3) (CT μ a S)) : w_X8_handOver G (CT μ a S) a x Q := by
  have l := h.1.1
  have l0 := l.1
  have hr0 := hr
  obtain ⟨rS, rT, rN, rC, rM, rP, rZ⟩ := hr
  unfold w_X8_handOver
  refine ⟨hs.k0, t_nestAt hs rS l0.1 (fun n hn ex => ⟨fun z => (nomatch z), fun a3 z => ?_⟩) (fun q => ⟨fun _ => h0 q, fun a3 z => nomatch z⟩)⟩
  cases z
  obtain ⟨e5, bi, bk⟩ := rN n hn
  have h8 := (l.2.1 n hn).1
  rw [CT_I (by omega), e5.2.2.2.1]
  refine ⟨hs.nk (by omega), fun c => ?_, fun c => h2 n hn ex ((nI_eq (by omega) (by omega)).mp c)⟩
  have p1 : 1 ≤ v (12 + 21 * n + 2) := by
    have : v (12 + 21 * n + 2) ≠ 0 := fun z => c (by rw [z]; rfl)
    omega
  have hq := h1 n hn ex p1
  obtain ⟨f1, f2, f3, f4⟩ := first_in h (by omega) hn p1
  have o : ∀ j, j < 12 + 21 * n + 2 ∨ 12 + 21 * n + 11 ≤ j → fShift v n j = v j := fun j hj => fS_o h8 p1 hj
  have c0 : (nI 0).toNatClampNeg = 0 := cl (by decide)
  have c1 : (nI 1).toNatClampNeg = 1 := cl (by decide)
  have c7 : (nI 7).toNatClampNeg = 7 := cl (by decide)
  unfold w_X6_takeFirst
  rw [CT_I (by omega), e5.2.2.2.1]
  refine ⟨hs.nk (by omega), fun _ => ⟨_, hs.nin (by omega), hs.nik (by omega), ?_, ?_, ?_, ?_⟩, fun z => absurd (nI_lt (a := 0) (by omega) (by omega)) z⟩
  · rw [hs.nin8 (by omega)]
    exact vp_in_nI (by decide) (by omega)
  · rw [hs.nin8 (by omega), c1, c7]; decide
  · rw [hs.nin8 (by omega), c0, c7]; decide
  · rw [c0, c1, c7, CT_A (by omega), bi 0 (by omega), CT_sC (by omega) (by omega), CT_I (by omega), cF_fC, e5.2.2.2.1, pk_sub p1, CT_sI (by omega)]
    rw [Nat.add_zero]
    refine ⟨hs.k0, ?_⟩
    have r1 : Rel (fI (fC S (6 + 3 * n) 1 (6 + 3 * n) 0 7) 165 (5 + 3 * n) (nI (v (12 + 21 * n + 2) - 1))) (fShift v n) 4 16 := by
      refine ⟨RelS_c rS (fun j z y => o j (by omega)) (fun F z y => fI_o (by omega)), RelT_c rT (fun j z y => o j (by omega)) (fun F z y => fI_o (by omega)), fun q hq => ?_, RelC_c rC l0.2.1 (o _ (by omega)) (o _ (by omega)) (fun j z y => o j (by omega)) (fun F k z y => fI_o (by omega)), RelM_c rM l0.2.2 (o _ (by omega)) (o _ (by omega)) (fun j z => o j (by omega)) rfl (fun F k z y => fI_o (by omega)), RelP_c rP rfl, RelZ_c rZ (fun k => fI_o (by omega)) (fun k => fI_o (by omega))⟩
      rw [o 0 (by omega)] at hq
      obtain ⟨g5, gi, gk⟩ := rN q hq
      obtain ⟨s8, k8, -⟩ := l.2.1 q hq
      rw [o (12 + 21 * q) (by omega), o (12 + 21 * q + 1) (by omega), o (12 + 21 * q + 20) (by omega), o (12 + 21 * q + 11) (by omega), fI_o (by omega), fI_o (by omega), fI_o (by omega), fI_o (F := 165) (G := 166) (by omega)]
      by_cases z : q = n
      · subst z
        rw [fS_z, fI_s]
        refine ⟨⟨g5.1, g5.2.1, g5.2.2.1, rfl, g5.2.2.2.2⟩, fun k hk => ?_, fun k hk => ?_⟩
        · rw [fS_i hk, cA_fI, cA_fC, if_pos (by omega), show 1 + (k - 0) = k + 1 by omega]
          exact gi (k + 1) (by omega)
        · rw [o _ (by omega), cA_fI, cA_fC, if_neg (by omega)]
          exact gk k hk
      · rw [o (12 + 21 * q + 2) (by omega), fI_o (by omega)]
        refine ⟨⟨g5.1, g5.2.1, g5.2.2.1, g5.2.2.2.1, g5.2.2.2.2⟩, fun k hk => ?_, fun k hk => ?_⟩
        · rw [o _ (by omega), cA_fI, cA_fC, if_neg (by omega)]
          exact gi k hk
        · rw [o _ (by omega), cA_fI, cA_fC, if_neg (by omega)]
          exact gk k hk
    have lS := Lim_shift l hn p1
    have ep : fPl (fShift v n) (nI (v (12 + 21 * n + 3))) = fPl v (nI (v (12 + 21 * n + 3))) := fPl_c (o 2 (by omega)) (fun q hq => o _ (by omega))
    refine t_remove hs lS r1 (Or.inr (Nat.le_refl _)) (by rw [ep, o 2 (by omega)]; exact f1) (fun S' r2 r3 r4 => ⟨hs.k0, gt hs ?_⟩)
    rw [ep] at r2
    have hp : fPl v (nI (v (12 + 21 * n + 3))) < fShift v n 2 := by rw [o 2 (by omega)]; exact f1
    have r := Rel_u (F := 258) (k := 7) (x := v 7 + 1) (Or.inr (Or.inr (Or.inl ⟨rfl, rfl⟩))) (Lim_ceases lS hp) r2
    have e258 : cF S' 258 4 = nI (v 7) := by
      rw [r3 _ _ (by omega), fI_o (by omega), cF_fC]
      exact rT.2.2.1
    rw [CT_I (k := 4) (by decide), e258, nI_add, CT_sI (k := 4) (by decide)]
    refine hq _ ?_
    unfold fRead
    rw [fC_up (by omega) (by omega) hp]
    exact r
end OPS8

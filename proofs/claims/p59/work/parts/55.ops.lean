/-! WIND, FORGETTING, A CROW -/
section OPS1
variable {G : mgT} {μ : mmT} {a m : Nat} {S : cT} {v w : Nat → Nat} {p n i d e t c b : Nat}
theorem rg {x : Int32} {N : Nat} (hn : N < 2 ^ 30) (h0 : ¬ x < 0) (h1 : x ≤ nI N) : ∃ k, k ≤ N ∧ x = nI k := by
  rcases pk_ix x (n := N + 1) (by omega) with q | q | ⟨j, hj, q⟩
  · exact absurd q h0
  · have a1 := Int32.le_iff_toInt_le.mp q
    have a2 := Int32.le_iff_toInt_le.mp h1
    rw [nI_toInt (by omega)] at a1 a2
    omega
  · exact ⟨j, by omega, q⟩
theorem t_turnWind {Q : Int32 → mmT → Prop} {x : Int32} (hs : SS μ a) (hr : Rel S v 4 16) (l : Lim v)
    (h1 : ∀ k, k ≤ 9 → x = nI k → ∀ S', Rel S' (up v 5 k) 4 16 → Q (nI (v 5)) (CT μ a S')) (h0 : (∀ k, k ≤ 9 → x ≠ nI k) → Q (-1) (CT μ a S)) : w_X8_turnWind G (CT μ a S) a x Q := by
  unfold w_X8_turnWind w_X8_turnWind_b10
  refine ⟨fun c => h0 (fun k hk e => nI_nneg (by omega) (e ▸ c)), fun c => ⟨fun c2 => ⟨hs.k0, ?_⟩, fun c2 => h0 (fun k hk e => c2 (by rw [e]; exact nI_le (by omega) (by omega)))⟩⟩
  obtain ⟨k, hk, rfl⟩ := rg (by decide) c c2
  rw [CT_I0, hr.1.2.2.2.2, CT_sI0]
  refine h1 k hk rfl _ ?_
  obtain ⟨rS, rT, rN, rC, rM, rP, rZ⟩ := hr
  refine ⟨⟨?_, ?_, ?_, ?_, ?_⟩, RelT_c rT (fun j z y => up_n (by omega)) (fun F z y => fI_o (by omega)), RelN_c rN l (up_n (by omega)) (fun j z y => up_n (by omega)) (fun F k z y => fI_o (by omega)) rfl, RelC_c rC l.1.2.1 (up_n (by omega)) (up_n (by omega)) (fun j z y => up_n (by omega)) (fun F k z y => fI_o (by omega)), RelM_c rM l.1.2.2 (up_n (by omega)) (up_n (by omega)) (fun j z => up_n (by omega)) rfl (fun F k z y => fI_o (by omega)), RelP_c rP rfl, RelZ_c rZ (fun k => fI_o (by omega)) (fun k => fI_o (by omega))⟩
  · rw [fI_o (by omega), up_n (by omega)]; exact rS.1
  · rw [fI_o (by omega), up_n (by omega)]; exact rS.2.1
  · rw [fI_o (by omega), up_n (by omega)]; exact rS.2.2.1
  · rw [fI_o (by omega), up_n (by omega)]; exact rS.2.2.2.1
  · rw [fI_s, up_s]
theorem J_wind {k : Nat} (h : J b 16 v) (hk : k ≤ 9) (hb : 119 ≤ b) : J b 16 (up v 5 k) := by
  refine ⟨InvA_up h.1 (by omega), ?_, Bd_up h.2.2 (by omega)⟩
  rw [tot_up (by omega), up_n (by omega), up_n (by omega)]
  exact h.2.1
def fForget (v : Nat → Nat) (n : Nat) : Nat → Nat := fun j => if 12 + 21 * n + 11 ≤ j ∧ j < 12 + 21 * n + 20 then 0 else v j
theorem fF_o {j : Nat} (h : ∀ d, 11 ≤ d → d < 20 → j ≠ 12 + 21 * n + d) : fForget v n j = v j := if_neg (fun z => h (j - (12 + 21 * n)) (by omega) (by omega) (by omega))
theorem fF_s {d : Nat} (h : 11 ≤ d) (h2 : d < 20) : fForget v n (12 + 21 * n + d) = 0 := if_pos (by omega)
theorem t_clearKeys {Q : Int32 → mmT → Prop} {x : Int32} (hs : SS μ a) (hr : Rel S v 4 16) (l : Lim v)
    (h1 : ∀ n, n < v 0 → x = nI n → ∀ S', Rel S' (fForget v n) 4 16 → Q (nI (v (12 + 21 * n + 11))) (CT μ a S')) (h0 : (∀ n, n < v 0 → x ≠ nI n) → Q (-3) (CT μ a S)) : w_X8_clearKeys G (CT μ a S) a x Q := by
  have l0 := l.1.1
  unfold w_X8_clearKeys
  refine ⟨hs.k0, t_nestAt hs hr.1 l0 (fun n hn e => ⟨fun z => (nomatch z), fun a3 z => ?_⟩) (fun q => ⟨fun _ => h0 q, fun a3 z => nomatch z⟩)⟩
  cases z
  obtain ⟨rS, rT, rN, rC, rM, rP, rZ⟩ := hr
  refine ⟨hs.nk (by omega), ?_⟩
  rw [CT_I (by omega), (rN n hn).1.2.2.2.2, CT_sI (by omega)]
  refine h1 n hn e _ ⟨RelS_c rS (fun j z y => fF_o (fun d _ _ => by omega)) (fun F z y => fI_o (by omega)), RelT_c rT (fun j z y => fF_o (fun d _ _ => by omega)) (fun F z y => fI_o (by omega)), fun q hq => ?_, RelC_c rC l.1.2.1 (fF_o (fun d _ _ => by omega)) (fF_o (fun d _ _ => by omega)) (fun j z y => fF_o (fun d _ _ => by omega)) (fun F k z y => fI_o (by omega)), RelM_c rM l.1.2.2 (fF_o (fun d _ _ => by omega)) (fF_o (fun d _ _ => by omega)) (fun j z => fF_o (fun d _ _ => by omega)) rfl (fun F k z y => fI_o (by omega)), RelP_c rP rfl, RelZ_c rZ (fun k => fI_o (by omega)) (fun k => fI_o (by omega))⟩
  rw [fF_o (fun d _ _ => by omega)] at hq
  obtain ⟨e5, bi, bk⟩ := rN q hq
  obtain ⟨s8, k8, -⟩ := l.2.1 q hq
  rw [fF_o (j := 12 + 21 * q) (fun d _ _ => by omega), fF_o (j := 12 + 21 * q + 1) (fun d _ _ => by omega), fF_o (j := 12 + 21 * q + 20) (fun d _ _ => by omega), fF_o (j := 12 + 21 * q + 2) (fun d _ _ => by omega), fI_o (by omega), fI_o (by omega), fI_o (by omega), fI_o (by omega)]
  refine ⟨⟨e5.1, e5.2.1, e5.2.2.1, e5.2.2.2.1, ?_⟩, fun k hk => ?_, fun k hk => ?_⟩
  · by_cases y : q = n
    · subst y
      rw [fI_s, fF_s (by decide) (by decide)]
    · rw [fI_o (by omega), fF_o (fun d _ _ => by omega)]
      exact e5.2.2.2.2
  · rw [fF_o (fun d _ _ => by omega)]
    exact bi k hk
  · by_cases y : q = n
    · subst y
      rw [fF_s (by decide) (by decide)] at hk
      exact absurd hk (Nat.not_lt_zero _)
    · rw [fF_o (fun d _ _ => by omega)] at hk
      rw [fF_o (fun d _ _ => by omega)]
      exact bk k hk
end OPS1

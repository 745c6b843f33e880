section OPS4
variable {G : mgT} {μ : mmT} {a m : Nat} {S : cT} {v w : Nat → Nat} {p n i d e t c b x y : Nat}
def fPost (v : Nat → Nat) (n k : Nat) : Nat → Nat := fun j => if j = 2 then v 2 + 1 else if j = 3 then v 3 + 1 else if j = 146 + 7 * v 2 then v 3 else if j = 146 + 7 * v 2 + 1 then n else if j = 146 + 7 * v 2 + 2 then k else if j = 146 + 7 * v 2 + 4 then 119 else if 146 + 7 * v 2 ≤ j ∧ j < 146 + 7 * v 2 + 7 then 0 else v j
theorem fQ_2 {k : Nat} : fPost v n k 2 = v 2 + 1 := if_pos rfl
theorem fQ_3 {k : Nat} : fPost v n k 3 = v 3 + 1 := by
  unfold fPost
  rw [if_neg (by omega), if_pos rfl]
theorem fQ_o {j k : Nat} (h2 : j ≠ 2) (h3 : j ≠ 3) (h : j < 146 + 7 * v 2 ∨ 146 + 7 * v 2 + 7 ≤ j) : fPost v n k j = v j := by
  unfold fPost
  rw [if_neg h2, if_neg h3, if_neg (by omega), if_neg (by omega), if_neg (by omega), if_neg (by omega), if_neg (by omega)]
theorem fQ_r {k : Nat} : fPost v n k (146 + 7 * v 2) = v 3 ∧ fPost v n k (146 + 7 * v 2 + 1) = n ∧ fPost v n k (146 + 7 * v 2 + 2) = k ∧ fPost v n k (146 + 7 * v 2 + 3) = 0 ∧ fPost v n k (146 + 7 * v 2 + 4) = 119 ∧ fPost v n k (146 + 7 * v 2 + 5) = 0 ∧ fPost v n k (146 + 7 * v 2 + 6) = 0 := by
  unfold fPost
  refine ⟨?_, ?_, ?_, ?_, ?_, ?_, ?_⟩
  · rw [if_neg (by omega), if_neg (by omega), if_pos rfl]
  · rw [if_neg (by omega), if_neg (by omega), if_neg (by omega), if_pos rfl]
  · rw [if_neg (by omega), if_neg (by omega), if_neg (by omega), if_neg (by omega), if_pos rfl]
  · rw [if_neg (by omega), if_neg (by omega), if_neg (by omega), if_neg (by omega), if_neg (by omega), if_neg (by omega), if_pos (by omega)]
  · rw [if_neg (by omega), if_neg (by omega), if_neg (by omega), if_neg (by omega), if_neg (by omega), if_pos rfl]
  · rw [if_neg (by omega), if_neg (by omega), if_neg (by omega), if_neg (by omega), if_neg (by omega), if_neg (by omega), if_pos (by omega)]
  · rw [if_neg (by omega), if_neg (by omega), if_neg (by omega), if_neg (by omega), if_neg (by omega), if_neg (by omega), if_pos (by omega)]
theorem t_post {Q : Int32 → mmT → Prop} {z1 z2 : Int32} (hs : SS μ a) (hr : Rel S v 4 16) (l : Lim v)
    (h1 : ∀ n k, n < v 0 → k ≤ 99 → z1 = nI n → z2 = nI k → v 2 < 16 → ∀ S', Rel S' (fPost v n k) 4 16 → Q (nI (v 3)) (CT μ a S'))
    (h3 : (∀ n, n < v 0 → z1 ≠ nI n) → Q (-3) (CT μ a S))
    (h2 : ∀ n, n < v 0 → z1 = nI n → (∀ k, k ≤ 99 → z2 ≠ nI k) → Q (-1) (CT μ a S))
    (h0 : ∀ n k, n < v 0 → k ≤ 99 → z1 = nI n → z2 = nI k → v 2 = 16 → Q (-2) (CT μ a S)) : w_X8_post G (CT μ a S) a z1 z2 Q := by
  have l0 := l.1
  have hr0 := hr
  obtain ⟨rS, rT, rN, rC, rM, rP, rZ⟩ := hr
  unfold w_X8_post w_X8_post_b21
  refine ⟨hs.k0, t_nestAt hs rS l0.1 (fun n hn e1 => ⟨fun z => (nomatch z), fun a3 z => ⟨fun c => h2 n hn e1 (fun k hk e2 => nI_nneg (by omega) (e2 ▸ c)), fun c0 => ⟨fun c99 => ?_, fun c => h2 n hn e1 (fun k hk e2 => c (by rw [e2]; exact nI_le (by omega) (by omega)))⟩⟩⟩) (fun q => ⟨fun _ => h3 q, fun a3 z => nomatch z⟩)⟩
  obtain ⟨k, hk, e2⟩ := rg (by decide) c0 c99
  rw [CT_I0, rS.2.2.1]
  refine pk_lt (v 2) 16 (fun c => gt hs (gm hs c (gmo hs (by omega) (rP _ c).1 ?_))) (fun c => h0 n k hn hk e1 e2 (by omega))
  have hq := h1 n k hn hk e1 e2 c
  subst e1
  subst e2
  have pc := (rP _ c).1
  have e256 : cF S 256 4 = nI (v 3) := rT.1
  unfold w_X5_write
  refine ⟨hs.mk pc, ?_⟩
  rw [CT_I (k := 4) (by decide), e256, CT_sI (by omega), CT_sI (by omega), CT_sI (by omega), CT_sI (by omega), CT_sI (by omega), CT_sI (by omega)]
  refine ⟨hs.k0, ?_⟩
  rw [CT_I0, fI_o (by omega), fI_o (by omega), fI_o (by omega), fI_o (by omega), fI_o (by omega), fI_o (by omega), rS.2.2.1, nI_add, CT_sI0]
  refine gt hs ?_
  rw [CT_I (k := 4) (by decide), fI_o (by omega), fI_o (by omega), fI_o (by omega), fI_o (by omega), fI_o (by omega), fI_o (by omega), fI_o (by omega), e256, nI_add, CT_sI (k := 4) (by decide)]
  obtain ⟨S3, e3⟩ : ∃ S3, S3 = fI (fI (fI (fI (fI (fI (fI (fI S 128 (27 + cP S (v 2)) (nI (v 3))) 129 (27 + cP S (v 2)) (nI n)) 130 (27 + cP S (v 2)) (nI k)) 131 (27 + cP S (v 2)) (nI 0)) 132 (27 + cP S (v 2)) (nI 119)) 133 (27 + cP S (v 2)) (nI 0)) 230 0 (nI (v 2 + 1))) 256 4 (nI (v 3 + 1)) := ⟨_, rfl⟩
  rw [← e3]
  have eP : cP S3 = cP S := by
    rw [e3]
    rfl
  have eA : cA S3 = cA S := by
    rw [e3]
    rfl
  have fo : ∀ F k, ¬ (128 ≤ F ∧ F ≤ 133 ∧ k = 27 + cP S (v 2)) → F ≠ 230 → F ≠ 256 → cF S3 F k = cF S F k := fun F k q1 q2 q3 => by rw [e3, fI_o (by omega), fI_o (by omega), fI_o (by omega), fI_o (by omega), fI_o (by omega), fI_o (by omega), fI_o (by omega), fI_o (by omega)]
  have f128 : cF S3 128 (27 + cP S (v 2)) = nI (v 3) := by rw [e3, fI_o (by omega), fI_o (by omega), fI_o (by omega), fI_o (by omega), fI_o (by omega), fI_o (by omega), fI_o (by omega), fI_s]
  have f129 : cF S3 129 (27 + cP S (v 2)) = nI n := by rw [e3, fI_o (by omega), fI_o (by omega), fI_o (by omega), fI_o (by omega), fI_o (by omega), fI_o (by omega), fI_s]
  have f130 : cF S3 130 (27 + cP S (v 2)) = nI k := by rw [e3, fI_o (by omega), fI_o (by omega), fI_o (by omega), fI_o (by omega), fI_o (by omega), fI_s]
  have f131 : cF S3 131 (27 + cP S (v 2)) = nI 0 := by rw [e3, fI_o (by omega), fI_o (by omega), fI_o (by omega), fI_o (by omega), fI_s]
  have f132 : ∀ k, cF S3 132 k = cF (fI S 132 (27 + cP S (v 2)) (nI 119)) 132 k := fun k => by
    rw [e3, fI_o (by omega), fI_o (by omega), fI_o (by omega)]
    by_cases y : k = 27 + cP S (v 2)
    · subst y
      rw [fI_s, fI_s]
    · rw [fI_o (Or.inr y), fI_o (Or.inr y), fI_o (Or.inr y), fI_o (Or.inr y), fI_o (Or.inr y), fI_o (Or.inr y)]
  have f230 : cF S3 230 0 = nI (v 2 + 1) := by rw [e3, fI_o (by omega), fI_s]
  have f256 : cF S3 256 4 = nI (v 3 + 1) := by rw [e3, fI_s]
  clear e3
  have R := fQ_r (v := v) (n := n) (k := k)
  refine hq _ ⟨⟨?_, ?_, ?_, ?_, ?_⟩, ⟨?_, ?_, ?_, ?_, ?_, ?_, ?_⟩, RelN_c rN l (fQ_o (by omega) (by omega) (by omega)) (fun j z y => fQ_o (by omega) (by omega) (by omega)) (fun F k z y => fo _ _ (by omega) (by omega) (by omega)) eA, RelC_c rC l0.2.1 (fQ_o (by omega) (by omega) (by omega)) (fQ_o (by omega) (by omega) (by omega)) (fun j z y => fQ_o (by omega) (by omega) (by omega)) (fun F k z y => fo _ _ (by omega) (by omega) (by omega)), fun q hq => ?_, RelP_c rP eP, RelZ_c (RelZ_u (k := 27 + cP S (v 2)) rZ (by decide : 119 < 65536)) f132 (fun k => by rw [fo _ _ (by omega) (by omega) (by omega), fI_o (by omega)])⟩
  · rw [fo _ _ (by omega) (by omega) (by omega), fQ_o (by omega) (by omega) (by omega)]; exact rS.1
  · rw [fo _ _ (by omega) (by omega) (by omega), fQ_o (by omega) (by omega) (by omega)]; exact rS.2.1
  · rw [f230, fQ_2]
  · rw [fo _ _ (by omega) (by omega) (by omega), fQ_o (by omega) (by omega) (by omega)]; exact rS.2.2.2.1
  · rw [fo _ _ (by omega) (by omega) (by omega), fQ_o (by omega) (by omega) (by omega)]; exact rS.2.2.2.2
  · rw [f256, fQ_3]
  · rw [fo _ _ (by omega) (by omega) (by omega), fQ_o (by omega) (by omega) (by omega)]; exact rT.2.1
  · rw [fo _ _ (by omega) (by omega) (by omega), fQ_o (by omega) (by omega) (by omega)]; exact rT.2.2.1
  · rw [fo _ _ (by omega) (by omega) (by omega), fQ_o (by omega) (by omega) (by omega)]; exact rT.2.2.2.1
  · rw [fo _ _ (by omega) (by omega) (by omega), fQ_o (by omega) (by omega) (by omega)]; exact rT.2.2.2.2.1
  · rw [fo _ _ (by omega) (by omega) (by omega), fQ_o (by omega) (by omega) (by omega)]; exact rT.2.2.2.2.2.1
  · rw [fo _ _ (by omega) (by omega) (by omega), fQ_o (by omega) (by omega) (by omega)]; exact rT.2.2.2.2.2.2
  · rw [fQ_2] at hq
    rw [eP]
    by_cases z : q = v 2
    · subst z
      rw [R.1, R.2.1, R.2.2.1, R.2.2.2.1, R.2.2.2.2.1, f128, f129, f130, f131, f132, fI_s]
      exact ⟨⟨rfl, rfl, rfl, rfl, rfl⟩, fun q => absurd q (by decide)⟩
    · have hk9 : 27 + cP S q ≠ 27 + cP S (v 2) := fun y => z ((rP (v 2) c).2 q (by omega) (by omega))
      rw [fQ_o (j := 146 + 7 * q) (by omega) (by omega) (by omega), fQ_o (j := 146 + 7 * q + 1) (by omega) (by omega) (by omega), fQ_o (j := 146 + 7 * q + 2) (by omega) (by omega) (by omega), fQ_o (j := 146 + 7 * q + 3) (by omega) (by omega) (by omega), fQ_o (j := 146 + 7 * q + 4) (by omega) (by omega) (by omega), fQ_o (j := 146 + 7 * q + 5) (by omega) (by omega) (by omega), fQ_o (j := 146 + 7 * q + 6) (by omega) (by omega) (by omega), fQ_o (j := 4) (by omega) (by omega) (by omega), fo _ _ (by omega) (by omega) (by omega), fo _ _ (by omega) (by omega) (by omega), fo _ _ (by omega) (by omega) (by omega), fo _ _ (by omega) (by omega) (by omega), fo _ _ (by omega) (by omega) (by omega), fo _ _ (by omega) (by omega) (by omega)]
      exact rM q (by omega)
end OPS4

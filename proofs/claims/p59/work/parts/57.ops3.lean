section OPS3
variable {G : mgT} {μ : mmT} {a m : Nat} {S : cT} {v w : Nat → Nat} {p n i d e t c b x y : Nat}
def fOpen (v : Nat → Nat) (x y : Nat) : Nat → Nat := fun j => if j = 0 then v 0 + 1 else if j = 12 + 21 * v 0 then x else if j = 12 + 21 * v 0 + 1 then y else if 12 + 21 * v 0 ≤ j ∧ j < 12 + 21 * v 0 + 21 then 0 else v j
theorem fO_0 : fOpen v x y 0 = v 0 + 1 := if_pos rfl
theorem fO_o {j : Nat} (h0 : j ≠ 0) (h : j < 12 + 21 * v 0 ∨ 12 + 21 * v 0 + 21 ≤ j) : fOpen v x y j = v j := by
  unfold fOpen
  rw [if_neg h0, if_neg (by omega), if_neg (by omega), if_neg (by omega)]
theorem fO_x : fOpen v x y (12 + 21 * v 0) = x := by
  unfold fOpen
  rw [if_neg (by omega), if_pos rfl]
theorem fO_y : fOpen v x y (12 + 21 * v 0 + 1) = y := by
  unfold fOpen
  rw [if_neg (by omega), if_neg (by omega), if_pos rfl]
theorem fO_z {d : Nat} (h1 : 2 ≤ d) (h2 : d < 21) : fOpen v x y (12 + 21 * v 0 + d) = 0 := by
  unfold fOpen
  rw [if_neg (by omega), if_neg (by omega), if_neg (by omega), if_pos (by omega)]
theorem t_openNest {Q : Int32 → mmT → Prop} {z1 z2 : Int32} (hs : SS μ a) (hr : Rel S v 4 16) (l : Lim v)
    (h1 : ∀ x y, 1 ≤ x → x ≤ 9 → y ≤ 4 → z1 = nI x → z2 = nI y → v 0 < 6 → ∀ S', Rel S' (fOpen v x y) 4 16 → Q (nI (v 0)) (CT μ a S'))
    (h2 : ∀ x y, 1 ≤ x → x ≤ 9 → y ≤ 4 → z1 = nI x → z2 = nI y → v 0 = 6 → Q (-2) (CT μ a S))
    (h0 : (∀ x y, 1 ≤ x → x ≤ 9 → y ≤ 4 → z1 = nI x → z2 ≠ nI y) → Q (-1) (CT μ a S)) : w_X8_openNest G (CT μ a S) a z1 z2 Q := by
  have l0 := l.1
  obtain ⟨rS, rT, rN, rC, rM, rP, rZ⟩ := hr
  unfold w_X8_openNest w_X8_openNest_b20
  refine ⟨fun c => h0 (fun x y x1 x9 y4 e1 _ => ?_), fun c1 => ⟨fun c => h0 (fun x y x1 x9 y4 e1 _ => ?_), fun c9 => ⟨fun c => h0 (fun x y x1 x9 y4 _ e2 => nI_nneg (by omega) (e2 ▸ c)), fun c0 => ⟨fun c4 => ⟨hs.k0, ?_⟩, fun c => h0 (fun x y x1 x9 y4 _ e2 => c (by rw [e2]; exact nI_le (by omega) (by omega)))⟩⟩⟩⟩
  · rw [e1] at c
    have := (nI_ltI (by omega) (by omega)).mp c
    omega
  · rw [e1] at c
    have := (nI_ltI (by omega) (by omega)).mp c
    omega
  · obtain ⟨y, hy, e2⟩ := rg (by decide) c0 c4
    obtain ⟨x, hx, e1⟩ := rg (x := z1) (N := 9) (by decide) (fun q => c1 (Int32.lt_trans q (nI_lt (a := 0) (b := 1) (by omega) (by omega)))) (Int32.not_lt.mp c9)
    have x1 : 1 ≤ x := by
      by_cases q : x < 1
      · exact absurd (by rw [e1]; exact (nI_ltI (by omega) (by omega)).mpr q) c1
      · omega
    rw [CT_I0, rS.1]
    refine pk_lt (v 0) 6 (fun c => gn hs c (gno hs c ?_)) (fun c => h2 x y x1 hx hy e1 e2 (by omega))
    have hq := h1 x y x1 hx hy e1 e2 c
    subst e1
    subst e2
    unfold w_X6_open
    refine ⟨hs.nk c, ?_⟩
    rw [CT_sI (by omega), CT_sI (by omega), CT_sI (by omega), CT_sI (by omega), CT_sI (by omega)]
    refine ⟨hs.k0, ?_⟩
    rw [CT_I0, fI_o (by omega), fI_o (by omega), fI_o (by omega), fI_o (by omega), fI_o (by omega), rS.1, nI_add, CT_sI0]
    have fo : ∀ F k, ¬ (162 ≤ F ∧ F ≤ 166 ∧ k = 5 + 3 * v 0) → ¬ (F = 228 ∧ k = 0) → cF (fI (fI (fI (fI (fI (fI S 162 (5 + 3 * v 0) (nI x)) 163 (5 + 3 * v 0) (nI y)) 164 (5 + 3 * v 0) (nI 0)) 165 (5 + 3 * v 0) (nI 0)) 166 (5 + 3 * v 0) (nI 0)) 228 0 (nI (v 0 + 1))) F k = cF S F k := fun F k q1 q2 => by rw [fI_o (by omega), fI_o (by omega), fI_o (by omega), fI_o (by omega), fI_o (by omega), fI_o (by omega)]
    refine hq _ ⟨⟨?_, ?_, ?_, ?_, ?_⟩, RelT_c rT (fun j z y => fO_o (by omega) (by omega)) (fun F z y => fo _ _ (by omega) (by omega)), fun q hq => ?_, RelC_c rC l0.2.1 (fO_o (by omega) (by omega)) (fO_o (by omega) (by omega)) (fun j z y => fO_o (by omega) (by omega)) (fun F k z y => fo _ _ (by omega) (by omega)), RelM_c rM l0.2.2 (fO_o (by omega) (by omega)) (fO_o (by omega) (by omega)) (fun j z => fO_o (by omega) (by omega)) rfl (fun F k z y => fo _ _ (by omega) (by omega)), RelP_c rP rfl, RelZ_c rZ (fun k => fo _ _ (by omega) (by omega)) (fun k => fo _ _ (by omega) (by omega))⟩
    · rw [fI_s, fO_0]
    · rw [fo _ _ (by omega) (by omega), fO_o (by omega) (by omega)]; exact rS.2.1
    · rw [fo _ _ (by omega) (by omega), fO_o (by omega) (by omega)]; exact rS.2.2.1
    · rw [fo _ _ (by omega) (by omega), fO_o (by omega) (by omega)]; exact rS.2.2.2.1
    · rw [fo _ _ (by omega) (by omega), fO_o (by omega) (by omega)]; exact rS.2.2.2.2
    · rw [fO_0] at hq
      by_cases z : q = v 0
      · subst z
        rw [fO_x, fO_y, fO_z (by decide) (by decide), fO_z (by decide) (by decide), fO_z (by decide) (by decide)]
        refine ⟨⟨?_, ?_, ?_, ?_, ?_⟩, fun k hk => absurd hk (Nat.not_lt_zero _), fun k hk => absurd hk (Nat.not_lt_zero _)⟩
        · rw [fI_o (by omega), fI_o (by omega), fI_o (by omega), fI_o (by omega), fI_o (by omega), fI_s]
        · rw [fI_o (by omega), fI_o (by omega), fI_o (by omega), fI_o (by omega), fI_s]
        · rw [fI_o (by omega), fI_o (by omega), fI_o (by omega), fI_s]
        · rw [fI_o (by omega), fI_o (by omega), fI_s]
        · rw [fI_o (by omega), fI_s]
      · obtain ⟨s8, k8, -⟩ := l.2.1 q (by omega)
        obtain ⟨e5, bi, bk⟩ := rN q (by omega)
        rw [fO_o (j := 12 + 21 * q) (by omega) (by omega), fO_o (j := 12 + 21 * q + 1) (by omega) (by omega), fO_o (j := 12 + 21 * q + 20) (by omega) (by omega), fO_o (j := 12 + 21 * q + 2) (by omega) (by omega), fO_o (j := 12 + 21 * q + 11) (by omega) (by omega), fo _ _ (by omega) (by omega), fo _ _ (by omega) (by omega), fo _ _ (by omega) (by omega), fo _ _ (by omega) (by omega), fo _ _ (by omega) (by omega)]
        refine ⟨e5, fun k hk => ?_, fun k hk => ?_⟩
        · rw [fO_o (by omega) (by omega)]
          exact bi k hk
        · rw [fO_o (by omega) (by omega)]
          exact bk k hk
theorem J_open (h : J b 16 v) (h6 : v 0 < 6) (hx : 1 ≤ x ∧ x ≤ 9) (hy : y ≤ 4) (hb : 119 ≤ b) : J b 16 (fOpen v x y) := by
  obtain ⟨⟨l, a1, a2, a3, a4, a5, a6⟩, hT, hB⟩ := h
  have l0 := l.1
  have u : ∀ j, j ≠ 0 → j < 12 ∨ 138 ≤ j → fOpen v x y j = v j := fun j z q => fO_o z (by omega)
  have un : ∀ q k, q < v 0 → k < 21 → fOpen v x y (12 + 21 * q + k) = v (12 + 21 * q + k) := fun q k hq hk => fO_o (by omega) (by omega)
  have un0 : ∀ q, q < v 0 → fOpen v x y (12 + 21 * q) = v (12 + 21 * q) := fun q hq => fO_o (by omega) (by omega)
  have D2 := u 2 (by omega) (by omega)
  have D1 := u 1 (by omega) (by omega)
  have D3 := u 3 (by omega) (by omega)
  have es : ∀ x2, cS (fOpen v x y) x2 = cS v x2 := fun x => by
    unfold cS
    rw [D2]
    exact cnt_c _ (fun k hk => by rw [u _ (by omega) (by omega)])
  refine ⟨⟨⟨?_, fun m hm => ?_, fun q hq => ?_⟩, ⟨fun q hq => ?_, fun q r hqr hr => ?_⟩, fun q hq => ?_, ⟨fun c hc2 => ?_, fun c e hce he => ?_⟩, ⟨fun m k hm hk => ?_, fun m k j hm hkj hj => ?_⟩, ?_, ?_⟩, ?_, fun j => ?_⟩
  · rw [fO_0, D1, D2]
    omega
  · rw [fO_0] at hm
    by_cases z : m = v 0
    · subst z
      rw [fO_z (by decide) (by decide), fO_z (by decide) (by decide), fO_x, fO_y]
      omega
    · rw [un m 2 (by omega) (by omega), un m 11 (by omega) (by omega), un0 m (by omega), un m 1 (by omega) (by omega)]
      exact l.2.1 m (by omega)
  · rw [D2] at hq
    rw [fO_0, u _ (by omega) (by omega)]
    have := l.2.2 q hq
    omega
  · rw [D2] at hq
    rw [u _ (by omega) (by omega), D3]
    exact a1.1 q hq
  · rw [D2] at hr
    rw [u _ (by omega) (by omega), u _ (by omega) (by omega)]
    exact a1.2 q r hqr hr
  · rw [D2] at hq
    rw [u _ (by omega) (by omega), u _ (by omega) (by omega), u _ (by omega) (by omega), u _ (by omega) (by omega), u _ (by omega) (by omega)]
    exact a2 q hq
  · rw [D1] at hc2
    rw [u _ (by omega) (by omega), u _ (by omega) (by omega)]
    intro z
    obtain ⟨r1, q, hq, e1, e2⟩ := a3.1 c hc2 z
    exact ⟨r1, q, by rw [D2]; exact hq, by rw [u _ (by omega) (by omega)]; exact e1, by rw [u _ (by omega) (by omega)]; exact e2⟩
  · rw [D1] at he
    rw [u _ (by omega) (by omega), u _ (by omega) (by omega)]
    exact a3.2 c e hce he
  · rw [fO_0] at hm
    by_cases z : m = v 0
    · subst z
      rw [fO_z (by decide) (by decide)] at hk
      exact absurd hk (Nat.not_lt_zero _)
    · have := (l.2.1 m (by omega)).1
      rw [un m 2 (by omega) (by omega)] at hk
      have en := un m (3 + k) (by omega) (by omega)
      rw [← Nat.add_assoc] at en
      rw [en]
      obtain ⟨q, hq, e1, e2, e3⟩ := a4.1 m k (by omega) hk
      exact ⟨q, by rw [D2]; exact hq, by rw [u _ (by omega) (by omega)]; exact e1, by rw [u _ (by omega) (by omega)]; exact e2, by rw [u _ (by omega) (by omega)]; exact e3⟩
  · rw [fO_0] at hm
    by_cases z : m = v 0
    · subst z
      rw [fO_z (by decide) (by decide)] at hj
      exact absurd hj (Nat.not_lt_zero _)
    · have := (l.2.1 m (by omega)).1
      rw [un m 2 (by omega) (by omega)] at hj
      have en := un m (3 + k) (by omega) (by omega)
      have ej := un m (3 + j) (by omega) (by omega)
      rw [← Nat.add_assoc] at en ej
      rw [en, ej]
      exact a4.2 m k j (by omega) hkj hj
  · have ec : cC (fOpen v x y) = cC v := by
      unfold cC
      rw [D1]
      exact cnt_c _ (fun k hk => by rw [u _ (by omega) (by omega)])
    rw [es, ec]
    exact a5
  · have en : sN (fOpen v x y) = sN v := by
      unfold sN
      rw [fO_0]
      show su _ (v 0) + fOpen v x y (12 + 21 * v 0 + 2) = _
      rw [fO_z (by decide) (by decide), su_c (g := fun n => v (12 + 21 * n + 2)) (v 0) (fun k hk => un k 2 hk (by omega))]
      rfl
    rw [es, en]
    exact a6
  · unfold tot at hT ⊢
    rw [D2, D3, u 7 (by omega) (by omega), u 8 (by omega) (by omega), u 9 (by omega) (by omega), u 11 (by omega) (by omega)]
    exact hT
  · have := hB j
    unfold fOpen
    split
    · omega
    · split
      · omega
      · split
        · omega
        · split
          · omega
          · exact this
end OPS3

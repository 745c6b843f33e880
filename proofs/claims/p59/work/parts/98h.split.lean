/-! THE SCRIPT IS SPLIT, BY BOTH -/
section SPLIT
variable {G : mgT} {μ ν ρ σ μ0 : mmT} {z a b c m i j k F n o f g s d N : Nat} {X : Nat → Nat} {x y x2 y2 mk m1 m2 so : Int32} {P P2 : Nat → Prop}
/-- where the k-th command starts; the commands go on after it -/
def sS (X : Nat → Nat) (F : Nat) : Nat → Nat
  | 0 => 0
  | k + 1 => stp X F (sS X F k) + 1
def go (X : Nat → Nat) (F k : Nat) : Prop := okp X F (sS X F k) = true ∧ ch X F (stp X F (sS X F k)) = nI 59
theorem sS_b : ∀ N, (∀ k, k < N → go X F k) → 5 * N ≤ sS X F N ∧ sS X F N ≤ F
  | 0, _ => ⟨Nat.le_refl _, Nat.zero_le _⟩
  | N + 1, h => by
    have h1 := sS_b N (fun k hk => h k (by omega))
    have h2 := h N (by omega)
    have h3 := stp_b (X := X) h1.2
    have h4 := (h3.2.2 h2.1).1
    have h5 : stp X F (sS X F N) < F := Classical.byContradiction fun q => by
      have := h2.2
      rw [ch, if_neg q] at this
      exact absurd this (by decide)
    show 5 * (N + 1) ≤ stp X F (sS X F N) + 1 ∧ stp X F (sS X F N) + 1 ≤ F
    omega
theorem sS_x : ∀ (m N : Nat), (∀ k, k < N → go X F k) → F < 5 * (N + m) → ∃ N, (∀ k, k < N → go X F k) ∧ ¬ go X F N
  | 0, N, h, hF => by
    have := sS_b N h
    omega
  | m + 1, N, h, hF => by
    by_cases e : go X F N
    · exact sS_x m (N + 1) (fun k hk => by
        by_cases q : k = N
        · rw [q]; exact e
        · exact h k (by omega)) (by omega)
    · exact ⟨N, h, e⟩
/-- the whole text has the form -/
def fv (X : Nat → Nat) (F N : Nat) : Bool := okp X F (sS X F N) && decide (stp X F (sS X F N) = F)
theorem fv_t : fv X F N = true ↔ okp X F (sS X F N) = true ∧ stp X F (sS X F N) = F := by
  unfold fv
  rw [Bool.and_eq_true, decide_eq_true_iff]
abbrev Pq (z : Nat) : Nat → Prop := fun b => z + 522 ≤ b ∧ b < z + 582
theorem t_sp {Q : Int32 → mmT → Prop} (hF : F ≤ 60) (hX : ∀ i, i < F → X i ≤ 126) (hT0 : ST μ0 z) (ht0 : Tx μ0 z X F) (hN : ∀ k, k < N → go X F k) (hn : ¬ go X F N)
    (h : ∀ ν, Ap z μ0 ν (Pq z) → mI ν 196 (z + 519) = nI (stp X F (sS X F N)) → (fv X F N = true → mI ν 195 (z + 519) = nI (N + 1) ∧ ∀ j, j ≤ N → Cd G ν (z + (522 + j)) X F (sS X F j) (pk X F (sS X F j))) → Q (if fv X F N = true then nI 1 else nI 0) ν) :
    ∀ (d k : Nat) (μ : mmT), k + d = N → Ap z μ0 μ (Pq z) → (∀ j, j < k → Cd G μ (z + (522 + j)) X F (sS X F j) (pk X F (sS X F j))) → w_X7_split_l4 G (z + 519) Q (d + 1) (nI (sS X F k)) (nI k) μ := by
  intro d
  induction d with
  | zero =>
    intro k μ hk hA hC
    obtain rfl : k = N := by omega
    have hT := ST_ap hT0 hA
    have ht := ht0.ap hA
    have hb := sS_b k hN
    have hs := stp_b (X := X) hb.2
    refine ⟨fun e => absurd ((nI_leI (by omega) (by omega)).mp e) (by omega), fun _ => ⟨hT.t.1, z + 521, hT.t.2.2.1, hT.t.2.2.2.2.2.1, vp_th hT.t.2.2.2.2.2.2.1 (by omega) (by decide), ?_⟩⟩
    rw [cl (by omega), (hT.t.2.2.2.2.2.2.2 k (by omega)).1]
    refine t_readC (by omega) hF hX hT ht hb.2 (fun ν g h5 h6 hc => ?_)
    have hT2 := ST_ap hT g
    have ht2 := ht.ap g
    have g2 : Ap z ν (sI ν 195 (z + 519) (nI (k + 1))) (Pq z) := Ap_sI1 (by decide)
    have gz : Ap z μ0 ν (Pq z) := (hA.tr (g.up (P2 := Pq z) (fun b q => by show z + 522 ≤ b ∧ b < z + 582; omega))).up (fun b q => q.elim id id)
    have gz2 : Ap z μ0 (sI ν 195 (z + 519) (nI (k + 1))) (Pq z) := (gz.tr g2).up (fun b q => q.elim id id)
    have f6 : mI (sI ν 195 (z + 519) (nI (k + 1))) 196 (z + 519) = nI (stp X F (sS X F k)) := (sI_o (by omega)).trans h6
    have f4 : mI (sI ν 195 (z + 519) (nI (k + 1))) 194 (z + 519) = nI F := (sI_o (by omega)).trans ht2.1
    refine ⟨fun u => ?_, fun u => ?_⟩
    · have ok : okp X F (sS X F k) = true := Classical.byContradiction fun q => by rw [if_neg q] at u; exact u rfl
      rw [nI_add]
      refine ⟨hT2.t.1, ?_⟩
      rw [f6, f4]
      refine ⟨fun e => ?_, fun e => ?_⟩
      · have lt := (nI_ltI (by omega) (by omega)).mp e
        refine ⟨z + 520, hT2.t.2.1, hT2.t.2.2.2.1, vp_th hT2.t.2.2.2.2.1 (by omega) (by decide), ?_⟩
        rw [cl (by omega), sI_A, ht2.2 _ lt]
        refine ⟨fun e59 => absurd ⟨ok, (show ch X F _ = nI 59 from (if_pos lt).trans e59)⟩ hn, fun _ => ?_⟩
        have nv : ¬ fv X F k = true := fun q => by have := (fv_t.mp q).2; omega
        have := h _ gz2 f6 (fun q => absurd q nv)
        rw [if_neg nv] at this
        exact this
      · have ge : ¬ stp X F (sS X F k) < F := fun q => e ((nI_ltI (by omega) (by omega)).mpr q)
        have yv : fv X F k = true := fv_t.mpr ⟨ok, by omega⟩
        have := h _ gz2 f6 (fun _ => ⟨sI_e, fun j hj => ?_⟩)
        · rw [if_pos yv] at this
          exact this
        · have cd : Cd G ν (z + (522 + j)) X F (sS X F j) (pk X F (sS X F j)) := by
            by_cases q : j = k
            · rw [q]; exact hc ok
            · obtain ⟨c1, x, y, c2, c3⟩ := hC j (by omega)
              have pr := g.2.2.1 (z + (522 + j)) (by omega) (by omega)
              exact ⟨pr.2.trans c1, x, y, (pr.1 _).trans c2, (pr.1 _).trans c3⟩
          obtain ⟨c1, x, y, c2, c3⟩ := cd
          exact ⟨by rw [sI_R]; exact c1, x, y, (sI_o (by omega)).trans c2, (sI_o (by omega)).trans c3⟩
    · have nok : ¬ okp X F (sS X F k) = true := fun q => by rw [if_pos q] at u; exact absurd u (by decide)
      have nv : ¬ fv X F k = true := fun q => nok (fv_t.mp q).1
      have := h _ gz h6 (fun q => absurd q nv)
      rw [if_neg nv] at this
      exact this
  | succ d ih =>
    intro k μ hk hA hC
    have hT := ST_ap hT0 hA
    have ht := ht0.ap hA
    have hNk : ∀ q, q < k → go X F q := fun q hq => hN q (by omega)
    have hb := sS_b k hNk
    have hs := stp_b (X := X) hb.2
    obtain ⟨ok, e59⟩ := hN k (by omega)
    have lt : stp X F (sS X F k) < F := Classical.byContradiction fun q => by
      rw [ch, if_neg q] at e59
      exact absurd e59 (by decide)
    refine ⟨fun e => absurd ((nI_leI (by omega) (by omega)).mp e) (by omega), fun _ => ⟨hT.t.1, z + 521, hT.t.2.2.1, hT.t.2.2.2.2.2.1, vp_th hT.t.2.2.2.2.2.2.1 (by omega) (by decide), ?_⟩⟩
    rw [cl (by omega), (hT.t.2.2.2.2.2.2.2 k (by omega)).1]
    refine t_readC (by omega) hF hX hT ht hb.2 (fun ν g h5 h6 hc => ?_)
    have hT2 := ST_ap hT g
    have ht2 := ht.ap g
    have g2 : Ap z ν (sI ν 195 (z + 519) (nI (k + 1))) (Pq z) := Ap_sI1 (by decide)
    have gz : Ap z μ0 ν (Pq z) := (hA.tr (g.up (P2 := Pq z) (fun b q => by show z + 522 ≤ b ∧ b < z + 582; omega))).up (fun b q => q.elim id id)
    have gz2 : Ap z μ0 (sI ν 195 (z + 519) (nI (k + 1))) (Pq z) := (gz.tr g2).up (fun b q => q.elim id id)
    have f6 : mI (sI ν 195 (z + 519) (nI (k + 1))) 196 (z + 519) = nI (stp X F (sS X F k)) := (sI_o (by omega)).trans h6
    have f4 : mI (sI ν 195 (z + 519) (nI (k + 1))) 194 (z + 519) = nI F := (sI_o (by omega)).trans ht2.1
    rw [if_pos ok]
    refine ⟨fun u => ?_, fun u => absurd u (by decide)⟩
    rw [nI_add]
    refine ⟨hT2.t.1, ?_⟩
    rw [f6, f4]
    refine ⟨fun e => ⟨z + 520, hT2.t.2.1, hT2.t.2.2.2.1, vp_th hT2.t.2.2.2.2.1 (by omega) (by decide), ?_⟩, fun e => absurd ((nI_ltI (by omega) (by omega)).mpr lt) e⟩
    rw [cl (by omega), sI_A, ht2.2 _ lt]
    refine ⟨fun _ => ?_, fun q => absurd ((show ch X F _ = nI (X _) from if_pos lt).symm.trans e59) q⟩
    rw [nI_add]
    refine ih (k + 1) _ (by omega) gz2 (fun j hj => ?_)
    have cd : Cd G ν (z + (522 + j)) X F (sS X F j) (pk X F (sS X F j)) := by
      by_cases q : j = k
      · rw [q]; exact hc ok
      · obtain ⟨c1, x, y, c2, c3⟩ := hC j (by omega)
        have pr := g.2.2.1 (z + (522 + j)) (by omega) (by omega)
        exact ⟨pr.2.trans c1, x, y, (pr.1 _).trans c2, (pr.1 _).trans c3⟩
    obtain ⟨c1, x, y, c2, c3⟩ := cd
    exact ⟨by rw [sI_R]; exact c1, x, y, (sI_o (by omega)).trans c2, (sI_o (by omega)).trans c3⟩
theorem t_split {Q : Int32 → mmT → Prop} (hF : F ≤ 60) (hX : ∀ i, i < F → X i ≤ 126) (hT : ST μ z) (ht : Tx μ z X F) (hN : ∀ k, k < N → go X F k) (hn : ¬ go X F N)
    (h : ∀ ν, Ap z μ ν (Pq z) → mI ν 196 (z + 519) = nI (stp X F (sS X F N)) → (fv X F N = true → mI ν 195 (z + 519) = nI (N + 1) ∧ ∀ j, j ≤ N → Cd G ν (z + (522 + j)) X F (sS X F j) (pk X F (sS X F j))) → Q (if fv X F N = true then nI 1 else nI 0) ν) : w_X7_split G μ (z + 519) Q := by
  unfold w_X7_split
  exact ⟨N + 1, t_sp hF hX hT ht hN hn h N 0 μ (Nat.zero_add _) Ap_rf (fun j hj => absurd hj (Nat.not_lt_zero _))⟩
end SPLIT

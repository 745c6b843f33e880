/-! RANKS OF NESTS -/
def fRk (v : Nat → Nat) (i : Nat) : Nat → Bool := fun j => decide (v (12 + 21 * i + 20) < v (12 + 21 * j + 20) ∨ v (12 + 21 * j + 20) = v (12 + 21 * i + 20) ∧ (v (12 + 21 * j) < v (12 + 21 * i) ∨ v (12 + 21 * j) = v (12 + 21 * i) ∧ j < i))
def fNR (v : Nat → Nat) (x : Int32) : Nat := ff (fun i => decide (nI (cnt (fRk v i) (v 0)) = x)) (v 0)
section RANK
variable {G : mgT} {μ ν ρ : mmT} {z a b c m i j F n : Nat} {S S2 : cT} {v w : Nat → Nat} {B : Nat} {x y : Int32}
theorem cntn_le (p : Nat → Bool) : ∀ n, cnt p n ≤ n
  | 0 => Nat.le_refl _
  | n + 1 => by
    have := cntn_le p n
    unfold cnt
    split <;> omega
theorem cnt_S {p : Nat → Bool} {n : Nat} : cnt p (n + 1) = cnt p n + (if p n then 1 else 0) := rfl
theorem t_ranks {Q : Int32 → Prop} (hs : SS μ a) (hN : RelN S v) (l : Lim v) (hb : Bd B v) (hB : B < 2 ^ 30) (hj : j < v 0) (hi : i < v 0) (h : Q (if fRk v i j then 1 else 0)) : w_X8_ranksBefore G (CT μ a S) a (nI j) (nI i) Q := by
  have l0 := l.1.1
  have b1 := hb (12 + 21 * j + 20)
  have b2 := hb (12 + 21 * i + 20)
  have b3 := hb (12 + 21 * j)
  have b4 := hb (12 + 21 * i)
  have e1 := (hN j hj).1
  have e2 := (hN i hi).1
  have n6 : ∀ k, k < v 0 → vp_in (nI k) (mN (CT μ a S) (a + 1)) := fun k hk => by
    rw [hs.n1]
    exact vp_in_nI (by omega) (by omega)
  have f0 : ¬ (v (12 + 21 * i + 20) < v (12 + 21 * j + 20) ∨ v (12 + 21 * j + 20) = v (12 + 21 * i + 20) ∧ (v (12 + 21 * j) < v (12 + 21 * i) ∨ v (12 + 21 * j) = v (12 + 21 * i) ∧ j < i)) → Q (nI 0) := fun q => by
    have : fRk v i j = false := decide_eq_false q
    rw [this] at h
    exact h
  have f1 : (v (12 + 21 * i + 20) < v (12 + 21 * j + 20) ∨ v (12 + 21 * j + 20) = v (12 + 21 * i + 20) ∧ (v (12 + 21 * j) < v (12 + 21 * i) ∨ v (12 + 21 * j) = v (12 + 21 * i) ∧ j < i)) → Q (nI 1) := fun q => by
    have : fRk v i j = true := decide_eq_true q
    rw [this] at h
    exact h
  unfold w_X8_ranksBefore w_X8_ranksBefore_b106 w_X8_ranksBefore_b95 w_X8_ranksBefore_b47
  refine ⟨hs.k0, _, hs.r1, hs.k1, n6 j hj, gno hs (by omega) ⟨n6 i hi, gno hs (by omega) ?_⟩⟩
  rw [CT_I (by omega), CT_I (by omega), CT_I (by omega), CT_I (by omega), e1.1, e2.1, e1.2.2.1, e2.2.2.1]
  refine ⟨fun c => ⟨n6 j hj, n6 i hi, fun c2 => ?_, fun c2 => ⟨n6 j hj, n6 i hi, ?_⟩⟩, fun c => ⟨n6 j hj, n6 i hi, ?_⟩⟩
  · have c' := nI_inj (by omega) (by omega) c
    have c2' := nI_inj (by omega) (by omega) c2
    exact pk_le i j (fun c3 => ⟨Or.inl rfl, f0 (by omega)⟩) (fun c3 => ⟨Or.inr rfl, f1 (by omega)⟩)
  · have c' := nI_inj (by omega) (by omega) c
    have c2' : v (12 + 21 * j) ≠ v (12 + 21 * i) := fun e => c2 (by rw [e])
    exact pk_le (v (12 + 21 * i)) (v (12 + 21 * j)) (fun c3 => ⟨Or.inl rfl, f0 (by omega)⟩) (fun c3 => ⟨Or.inr rfl, f1 (by omega)⟩)
  · have c' : v (12 + 21 * j + 20) ≠ v (12 + 21 * i + 20) := fun e => c (by rw [e])
    exact pk_le (v (12 + 21 * j + 20)) (v (12 + 21 * i + 20)) (fun c3 => ⟨Or.inl rfl, f0 (by omega)⟩) (fun c3 => ⟨Or.inr rfl, f1 (by omega)⟩)
theorem t_nestAtRank {Q : Int32 → Prop} (hs : SS μ a) (rS : RelS S v) (hN : RelN S v) (l : Lim v) (hb : Bd B v) (hB : B < 2 ^ 30) (h : Q (pn (fNR v x) (v 0))) : w_X8_nestAtRank G (CT μ a S) a x Q := by
  have l0 := l.1.1
  unfold w_X8_nestAtRank
  refine (lpE (W := fun n i => (∀ j, j < i → ¬ nI (cnt (fRk v j) (v 0)) = x) → w_X8_nestAtRank_l2 G (CT μ a S) a Q n x (nI i)) (N := v 0) ?_ (Nat.zero_le _)).imp fun n hn => hn (fun j hj => absurd hj (Nat.not_lt_zero _))
  intro n i hi ih h0
  show w_X8_nestAtRank_b2 G (CT μ a S) a Q _ x (nI i)
  unfold w_X8_nestAtRank_b2
  rw [CT_I0, rS.1]
  refine ⟨hs.k0, pk_le (v 0) i (fun c => ?_) (fun hl => ?_)⟩
  · have e2 : fNR v x = v 0 := ff_none (fun j hj => decide_eq_false (h0 j (by omega)))
    rw [e2, pn_n (by omega)] at h
    exact h
  · refine (lpE (W := fun d j => w_X8_nestAtRank_l15 G (CT μ a S) a Q (w_X8_nestAtRank_l2 G (CT μ a S) a Q n) d x (nI i) (nI (cnt (fRk v i) j)) (nI j)) (N := v 0) ?_ (Nat.zero_le _)).imp fun n hn => hn
    intro d j hj ih2
    show w_X8_nestAtRank_b15 G (CT μ a S) a Q _ _ x (nI i) (nI (cnt (fRk v i) j)) (nI j)
    unfold w_X8_nestAtRank_b15 w_X8_nestAtRank_b37
    rw [CT_I0, rS.1]
    refine ⟨hs.k0, pk_le (v 0) j (fun c => ?_) (fun hl2 => t_ranks hs hN l hb hB hl2 hl ?_)⟩
    · have ej : j = v 0 := by omega
      subst ej
      refine ⟨fun c2 => ?_, fun c2 => ?_⟩
      · have := ih hl (fun j hj => by
          by_cases q : j = i
          · rw [q]
            exact c2
          · exact h0 j (by omega))
        rw [nI_add]
        exact this
      · have e2 : fNR v x = i := ff_at hl (decide_eq_true c2) (fun j hj => decide_eq_false (h0 j hj))
        rw [e2, pn_y hl] at h
        exact h
    · have := ih2 hl2
      rw [cnt_S] at this
      rw [nI_add]
      by_cases hk : fRk v i j = true
      · rw [if_pos hk] at this ⊢
        refine ⟨fun z => absurd z (by decide), fun _ => ?_⟩
        rw [nI_add]
        exact this
      · rw [if_neg hk] at this ⊢
        exact ⟨fun _ => this, fun z => absurd rfl z⟩
end RANK

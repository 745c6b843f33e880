/-! QUESTIONS ABOUT KEYS, CROWS AND MESSAGES -/
def fKnX (v : Nat → Nat) (n : Nat) (x : Int32) : Bool := decide (ff (fun k => decide (nI (v (12 + 21 * n + 12 + k)) = x)) (v (12 + 21 * n + 11)) < v (12 + 21 * n + 11))
section QUERY2
variable {G : mgT} {μ ν ρ : mmT} {z a b c m i F n : Nat} {S S2 : cT} {v w : Nat → Nat} {B : Nat} {x y : Int32}
theorem t_knowsX {Q : Int32 → Prop} (hs : SS μ a) (hn : n < v 0) (l : Lim v) (hN : RelN S v) (h : Q (if fKnX v n x then 1 else 0)) : w_X6_knows G (CT μ a S) (a + (5 + 3 * n)) x Q := by
  have l0 := l.1.1
  obtain ⟨-, l2, -⟩ := l.2.1 n hn
  obtain ⟨e, -, ek⟩ := hN n hn
  unfold w_X6_knows
  refine (lpE (W := fun d i => (∀ j, j < i → ¬ nI (v (12 + 21 * n + 12 + j)) = x) → w_X6_knows_l2 G (CT μ a S) (a + (5 + 3 * n)) Q d x (nI i)) (N := v (12 + 21 * n + 11)) ?_ (Nat.zero_le _)).imp fun d hd => hd (fun j hj => absurd hj (Nat.not_lt_zero _))
  intro d i hi ih h0
  show w_X6_knows_b2 G (CT μ a S) (a + (5 + 3 * n)) Q _ x (nI i)
  unfold w_X6_knows_b2
  rw [CT_I (by omega), e.2.2.2.2]
  refine ⟨hs.nk (by omega), fun c => ?_, fun c => ?_⟩
  · have e9 := y_le (by omega) (by omega) c
    have e2 : fKnX v n x = false := by
      unfold fKnX
      rw [ff_none (fun j hj => decide_eq_false (h0 j (by omega)))]
      exact decide_eq_false (Nat.lt_irrefl _)
    rw [e2] at h
    exact h
  · have hl := ng_le (by omega) (by omega) c
    refine ⟨_, hs.nkey (by omega), hs.nkk (by omega), ?_, ?_⟩
    · rw [hs.nkn8 (by omega)]
      exact vp_in_nI (by omega) (by omega)
    · rw [cl (by omega), CT_A (by omega), ek i hl]
      refine ⟨fun c2 => ?_, fun c2 => ?_⟩
      · have := ih hl (fun j hj => by
          by_cases q : j = i
          · rw [q]
            exact c2
          · exact h0 j (by omega))
        rw [nI_add]
        exact this
      · have e2 : fKnX v n x = true := by
          unfold fKnX
          rw [ff_at hl (decide_eq_true c2) (fun j hj => decide_eq_false (h0 j hj))]
          exact decide_eq_true hl
        rw [e2] at h
        exact h
theorem b01 {c : Bool} : (if c = true then (1 : Int32) else 0) = 0 ∨ (if c = true then (1 : Int32) else 0) = 1 := by
  by_cases h : c = true
  · exact Or.inr (if_pos h)
  · exact Or.inl (if_neg h)
/-! crows -/
theorem t_crowAt {Q : Option Nat → Prop} (hs : SS μ a) (hS : RelS S v) (h0 : v 1 ≤ 4) (h1 : ∀ n, n < v 1 → x = nI n → Q (some (a + (23 + n)))) (h2 : (∀ n, n < v 1 → x ≠ nI n) → Q none) : w_X8_crowAt G (CT μ a S) a x Q := by
  unfold w_X8_crowAt w_X8_crowAt_b12 w_X8_crowAt_b22
  refine ⟨fun c => h2 (fun n hn e => nI_nneg (by omega) (e ▸ c)), fun c => ⟨hs.k0, ?_⟩⟩
  rw [CT_I0, hS.2.1]
  refine ⟨fun c2 => ?_, fun c2 => h2 (fun n hn e => c2 (by rw [e]; exact (nI_ltI (by omega) (by omega)).mpr hn))⟩
  rcases pk_ix x (n := v 1) (by omega) with q | q | q
  · exact absurd q c
  · exact absurd c2 (Int32.not_lt.mpr q)
  · obtain ⟨n, hn, rfl⟩ := q
    refine gc hs (by omega) ?_
    rw [cl (by omega), hs.cb (by omega)]
    exact h1 n hn rfl
theorem x_crow {Q : Option Nat → Prop} {X : String → Prop} (hT : ST μ z) (hr : Rel S v 4 16) (l : Lim v) (h1 : ∀ n, n < v 1 → x = nI n → Q (some (z + 1 + (23 + n)))) (h0 : (∀ n, n < v 1 → x ≠ nI n) → X "java/lang/IndexOutOfBoundsException") : w_X10_existingCrow G (CT μ (z + 1) S) z x Q X :=
  ⟨hT.kz, _, hT.z1, hT.s1.1, t_crowAt hT.s1 hr.1 l.1.2.1 (fun n hn e => ⟨fun z => (nomatch z), fun a6 e6 => h1 n hn e⟩) (fun q => ⟨fun _ => h0 q, fun a z => (nomatch z)⟩)⟩
theorem ix_crow (n : Nat) : nI 138 + nI 2 * nI n = nI (138 + 2 * n) := by rw [pk_mul, nI_add]
theorem nI_z {n : Nat} (h : n < 2 ^ 31) : nI n ≤ 0 ↔ n = 0 := by
  have := nI_leI (a := n) (b := 0) h (by decide)
  rw [show nI 0 = 0 from rfl] at this
  rw [this]
  omega
end QUERY2

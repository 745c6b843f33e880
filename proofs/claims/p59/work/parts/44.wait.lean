/-! THE WAITING MESSAGE OF A RANK -/
theorem cnt_c {p q : Nat → Bool} : ∀ n, (∀ k, k < n → p k = q k) → cnt p n = cnt q n
  | 0, _ => rfl
  | n + 1, h => by
    unfold cnt
    rw [cnt_c n (fun k hk => h k (by omega)), h n (by omega)]
theorem cnt_1 {p q : Nat → Bool} {i : Nat} (hp : p i = false) (hq : q i = true) : ∀ n, i < n → (∀ k, k < n → k ≠ i → p k = q k) → cnt q n = cnt p n + 1
  | 0, h, _ => absurd h (Nat.not_lt_zero _)
  | n + 1, h, hk => by
    unfold cnt
    by_cases c : i = n
    · subst c
      rw [cnt_c i (fun k z => hk k (by omega) (by omega)), hp, hq]
      rfl
    · rw [cnt_1 hp hq n (by omega) (fun k z y => hk k (by omega) y), hk n (by omega) (fun z => c z.symm)]
      omega
theorem cntp_le (p : Nat → Bool) : ∀ n, cnt p n ≤ n
  | 0 => Nat.le_refl _
  | n + 1 => by
    have := cntp_le p n
    unfold cnt
    split <;> omega
theorem cnt_mono {p q : Nat → Bool} : ∀ n, (∀ k, k < n → p k = true → q k = true) → cnt p n ≤ cnt q n
  | 0, _ => Nat.le_refl _
  | n + 1, h => by
    have := cnt_mono n (fun k hk => h k (by omega))
    have h2 := h n (by omega)
    unfold cnt
    cases hp : p n
    · exact Nat.add_le_add this (Nat.zero_le _)
    · rw [h2 hp]
      exact Nat.add_le_add this (Nat.le_refl _)
theorem cnt_lt {p q : Nat → Bool} {i n : Nat} (hi : i < n) (hp : p i = false) (hq : q i = true) (h : ∀ k, k < n → p k = true → q k = true) : cnt p n < cnt q n := by
  have e := cnt_1 (p := fun k => if k = i then false else q k) (q := q) (i := i) (if_pos rfl) hq n hi (fun k _ hk => if_neg hk)
  have m := cnt_mono (p := p) (q := fun k => if k = i then false else q k) n (fun k hk z => by
    by_cases c : k = i
    · rw [c, hp] at z
      exact nomatch z
    · rw [if_neg c]
      exact h k hk z)
  omega
section WAITS
variable {G : mgT} {μ : mmT} {a b n : Nat} {S : cT} {v w : Nat → Nat} {jc jm : Nat}
def wB (v : Nat → Nat) (t i : Nat) : Nat → Bool := fun b => decide (v (146 + 7 * b + 4) = 119 ∧ (v (146 + 7 * b + 3) < t ∨ v (146 + 7 * b + 3) = t ∧ b < i))
def wA (v : Nat → Nat) (t i : Nat) : Nat := cnt (wB v t i) (v 2)
theorem fAhead_wA (v : Nat → Nat) (i : Nat) : fAhead v i = wA v (v (146 + 7 * i + 3)) i := rfl
theorem wA_0 : wA v 0 0 = 0 := by
  have h : ∀ n, cnt (wB v 0 0) n = 0 := fun n => by
    induction n with
    | zero => rfl
    | succ n ih =>
      unfold cnt
      rw [ih, show wB v 0 0 n = false from decide_eq_false (by omega)]
      rfl
  exact h _
theorem wA_s {t i : Nat} (hi : i < v 2) (hs : v (146 + 7 * i + 4) = 119) (ht : v (146 + 7 * i + 3) = t) : wA v t (i + 1) = wA v t i + 1 :=
  cnt_1 (i := i) (decide_eq_false (by omega)) (decide_eq_true (by omega)) _ hi (fun k _ hk => decide_eq_decide.mpr (by omega))
theorem wA_n {t i : Nat} (h : ¬ (v (146 + 7 * i + 4) = 119 ∧ v (146 + 7 * i + 3) = t)) : wA v t (i + 1) = wA v t i :=
  cnt_c _ (fun k _ => decide_eq_decide.mpr (by
    by_cases c : k = i
    · subst c
      omega
    · omega))
theorem wA_t {t : Nat} : wA v t (v 2) = wA v (t + 1) 0 := cnt_c _ (fun k hk => decide_eq_decide.mpr (by omega))
theorem fAhead_inj {i j : Nat} (hi : i < v 2) (hj : j < v 2) (si : v (146 + 7 * i + 4) = 119) (sj : v (146 + 7 * j + 4) = 119) (h : fAhead v i = fAhead v j) : i = j := by
  have key : ∀ x y, x < v 2 → y < v 2 → v (146 + 7 * x + 4) = 119 → (v (146 + 7 * x + 3) < v (146 + 7 * y + 3) ∨ v (146 + 7 * x + 3) = v (146 + 7 * y + 3) ∧ x < y) → fAhead v x < fAhead v y := fun x y hx hy sx z =>
    cnt_lt hx (decide_eq_false (by omega)) (decide_eq_true ⟨sx, z⟩) (fun k _ q => by
      have q2 := of_decide_eq_true q
      exact decide_eq_true (by omega))
  rcases Nat.lt_trichotomy (v (146 + 7 * i + 3)) (v (146 + 7 * j + 3)) with q | q | q
  · have := key i j hi hj si (Or.inl q)
    omega
  · rcases Nat.lt_trichotomy i j with r | r | r
    · have := key i j hi hj si (Or.inr ⟨q, r⟩)
      omega
    · exact r
    · have := key j i hj hi sj (Or.inr ⟨q.symm, r⟩)
      omega
  · have := key j i hj hi sj (Or.inl q)
    omega
theorem t_waiting {Q : Option Nat → Prop} {x : Int32} (hs : SS μ a) (l : Lim v) (rS : RelS S v) (rM : RelM S v jm) (rP : RelP S) (hb : Bd b v) (hb2 : b < 2 ^ 30) (ht : ∀ p, p < v 2 → v (146 + 7 * p + 4) = 119 → v (146 + 7 * p + 3) ≤ 4) (h : Q (if fWaiting v x < v 2 then some (a + (27 + cP S (fWaiting v x))) else none)) : w_X8_waitingAtRank G (CT μ a S) a x Q := by
  have l2 := l.1.2.2
  have le : ∀ t i, wA v t i ≤ 16 := fun t i => Nat.le_trans (cntp_le _ _) l2
  unfold w_X8_waitingAtRank
  refine (lpE (W := fun n t => (∀ p, p < v 2 → v (146 + 7 * p + 4) = 119 → v (146 + 7 * p + 3) < t → ¬ nI (fAhead v p) = x) → w_X8_waitingAtRank_l4 G (CT μ a S) a Q n x (nI (wA v t 0)) (nI t)) (N := 5) ?_ (Nat.zero_le _)).imp fun n hn => ?_
  · intro n t hi ih h0
    show w_X8_waitingAtRank_b4 G (CT μ a S) a Q _ x _ (nI t)
    unfold w_X8_waitingAtRank_b4
    refine pk_le 5 t (fun c => ?_) (fun c => ?_)
    · have e : fWaiting v x = v 2 := ff_none (fun j hj => decide_eq_false (fun z => h0 j hj z.1 (by have := ht j hj z.1; omega) z.2))
      rw [e, if_neg (by omega)] at h
      exact h
    · refine (lpE (W := fun n i => (∀ p, p < v 2 → v (146 + 7 * p + 4) = 119 → v (146 + 7 * p + 3) < t ∨ v (146 + 7 * p + 3) = t ∧ p < i → ¬ nI (fAhead v p) = x) → w_X8_waitingAtRank_l12 G (CT μ a S) a Q _ n x (nI (wA v t i)) (nI t) (nI i)) (N := v 2) ?_ (Nat.zero_le _)).imp fun n hn => hn (fun p p1 p2 p3 => h0 p p1 p2 (by omega))
      intro n i hi2 ih2 h1
      show w_X8_waitingAtRank_b12 G (CT μ a S) a Q _ _ x _ (nI t) (nI i)
      unfold w_X8_waitingAtRank_b12 w_X8_waitingAtRank_b60
      rw [CT_I0, rS.2.2.1]
      refine ⟨hs.k0, pk_le (v 2) i (fun c2 => ?_) (fun c2 => ?_)⟩
      · have e : i = v 2 := by omega
        subst e
        rw [wA_t, nI_add]
        exact ih c (fun p p1 p2 p3 => h1 p p1 p2 (by omega))
      · have m := rM i c2
        have pc := (rP i (by omega)).1
        have b3 := hb (146 + 7 * i + 3)
        have b4 := hb (146 + 7 * i + 4)
        refine gm hs (by omega) ?_
        have skip : ¬ (v (146 + 7 * i + 4) = 119 ∧ v (146 + 7 * i + 3) = t) → w_X8_waitingAtRank_l12 G (CT μ a S) a Q (w_X8_waitingAtRank_l4 G (CT μ a S) a Q _) n x (nI (wA v t i)) (nI t) (nI i + nI 1) := fun z => by
          have := ih2 c2 (fun p p1 p2 p3 => h1 p p1 p2 (by
            by_cases y : p = i
            · subst y
              omega
            · omega))
          rw [wA_n z] at this
          rw [nI_add]
          exact this
        refine ⟨a + (27 + cP S i), by rw [cl (by omega), CT_B], hs.mk pc, ?_⟩
        rw [CT_I (by omega), CT_I (by omega), m.1.2.2.2.1, m.1.2.2.2.2]
        refine ⟨fun c3 => skip (fun z => c3 (by rw [z.1])), fun c3 => ?_⟩
        have s119 : v (146 + 7 * i + 4) = 119 := (nI_eq (by omega) (by decide)).mp c3
        refine ⟨fun c4 => skip (fun z => c4 (by rw [z.2])), fun c4 => ?_⟩
        have et : v (146 + 7 * i + 3) = t := (nI_eq (by omega) (by omega)).mp c4
        have ea : fAhead v i = wA v t i := by rw [fAhead_wA, et]
        refine ⟨fun c5 => ?_, fun c5 => ?_⟩
        · have := ih2 c2 (fun p p1 p2 p3 => by
            by_cases y : p = i
            · subst y
              rw [ea]
              exact c5
            · exact h1 p p1 p2 (by omega))
          rw [wA_s c2 s119 et] at this
          rw [nI_add, nI_add]
          exact this
        · have e : fWaiting v x = i := ff_at c2 (decide_eq_true ⟨s119, by rw [ea]; exact c5⟩) (fun j hj => decide_eq_false (fun z => by
            have lj : fAhead v j ≤ 16 := Nat.le_trans (cntp_le _ _) l2
            have := fAhead_inj (v := v) (i := j) (j := i) (by omega) c2 z.1 s119 ((nI_eq (by omega) (by have := le t i; omega)).mp (z.2.trans (by rw [ea]; exact c5.symm)))
            omega))
          rw [e, if_pos c2] at h
          rw [cl (by omega), CT_B]
          exact h
  · have := hn (fun p _ _ p3 => absurd p3 (Nat.not_lt_zero _))
    rw [wA_0] at this
    exact this
end WAITS

/-! RANKS, AND WHO LIES WHERE -/
section RK
variable {n i j q r : Nat} {P : Nat → Bool} {R : Nat → Nat → Bool}
theorem max_ex (p : Nat → Bool) (f : Nat → Nat) : ∀ n, (∃ k, k < n ∧ p k = true) → ∃ k, k < n ∧ p k = true ∧ ∀ l, l < n → p l = true → f l ≤ f k
  | 0, h => absurd h.choose_spec.1 (Nat.not_lt_zero _)
  | n + 1, h => by
    by_cases c : ∃ k, k < n ∧ p k = true
    · obtain ⟨k, h1, h2, h3⟩ := max_ex p f n c
      by_cases c2 : p n = true ∧ f k < f n
      · exact ⟨n, Nat.lt_succ_self n, c2.1, fun l hl pl => by
          by_cases e : l = n
          · rw [e]; exact Nat.le_refl _
          · have := h3 l (by omega) pl
            omega⟩
      · refine ⟨k, by omega, h2, fun l hl pl => ?_⟩
        by_cases e : l = n
        · subst e
          exact Nat.not_lt.mp (fun z => c2 ⟨pl, z⟩)
        · exact h3 l (by omega) pl
    · obtain ⟨k, h1, h2⟩ := h
      have e : k = n := by
        by_cases z : k < n
        · exact absurd ⟨k, z, h2⟩ c
        · omega
      subst e
      refine ⟨k, h1, h2, fun l hl pl => ?_⟩
      by_cases e : l = k
      · rw [e]; exact Nat.le_refl _
      · exact absurd ⟨l, by omega, pl⟩ c
def Rk (n : Nat) (P : Nat → Bool) (R : Nat → Nat → Bool) : Prop := (∀ i j, R i j = true → P j = true) ∧ (∀ i, R i i = false) ∧ (∀ i j k, R i j = true → R j k = true → R i k = true) ∧ ∀ i j, P i = true → P j = true → i ≠ j → R i j = true ∨ R j i = true
theorem Rk.p (h : Rk n P R) : ∀ i j, R i j = true → P j = true := h.1
theorem Rk.ir (h : Rk n P R) : ∀ i, R i i = false := h.2.1
theorem Rk.tr (h : Rk n P R) : ∀ i j k, R i j = true → R j k = true → R i k = true := h.2.2.1
theorem Rk.tri (h : Rk n P R) : ∀ i j, P i = true → P j = true → i ≠ j → R i j = true ∨ R j i = true := h.2.2.2
theorem Rk.lt (h : Rk n P R) (hj : j < n) (hij : R i j = true) : cnt (R j) n < cnt (R i) n :=
  cnt_lt hj (h.ir j) hij (fun k _ z => h.tr i j k hij z)
theorem cnt_pos {p : Nat → Bool} : ∀ n, 0 < cnt p n → ∃ k, k < n ∧ p k = true
  | 0, h => absurd h (Nat.lt_irrefl _)
  | n + 1, h => by
    by_cases c : p n = true
    · exact ⟨n, Nat.lt_succ_self _, c⟩
    · have : cnt p (n + 1) = cnt p n := by rw [cnt_S, if_neg c]; rfl
      rw [this] at h
      obtain ⟨k, h1, h2⟩ := cnt_pos n h
      exact ⟨k, by omega, h2⟩
theorem cnt_yes {p : Nat → Bool} {k : Nat} : ∀ n, k < n → p k = true → 0 < cnt p n
  | 0, h, _ => absurd h (Nat.not_lt_zero _)
  | n + 1, h, hp => by
    rw [cnt_S]
    by_cases c : k = n
    · subst c
      rw [if_pos hp]
      omega
    · have := cnt_yes n (by omega) hp
      omega
theorem Rk.down (h : Rk n P R) (hi : i < n) (pi : P i = true) (e : cnt (R i) n = q + 1) : ∃ j, j < n ∧ P j = true ∧ cnt (R j) n = q := by
  obtain ⟨j, h1, h2, h3⟩ := max_ex (R i) (fun j => cnt (R j) n) n (cnt_pos n (by omega))
  refine ⟨j, h1, h.p i j h2, ?_⟩
  have := cnt_1 (p := R j) (q := R i) (i := j) (h.ir j) h2 n h1 (fun k hk kj => by
    cases hr : R i k
    · cases hr2 : R j k
      · rfl
      · have := h.tr i j k h2 hr2
        rw [hr] at this
        exact nomatch this
    · rcases h.tri j k (h.p i j h2) (h.p i k hr) (fun z => kj z.symm) with z | z
      · exact z
      · have h4 := h.lt h1 z
        have h5 := h3 k hk hr
        have : cnt (R k) n ≤ cnt (R j) n := h5
        omega)
  omega
theorem Rk.all (h : Rk n P R) : ∀ d i, i < n → P i = true → ∀ q, cnt (R i) n = q + d → ∃ j, j < n ∧ P j = true ∧ cnt (R j) n = q
  | 0, i, hi, pi, q, e => ⟨i, hi, pi, e⟩
  | d + 1, i, hi, pi, q, e => by
    obtain ⟨j, h1, h2, h3⟩ := h.down (q := q + d) hi pi e
    exact h.all d j h1 h2 q h3
theorem cnt_t : ∀ n, cnt (fun _ => true) n = n
  | 0 => rfl
  | n + 1 => by rw [cnt_S, cnt_t n]; rfl
theorem Rk.lim (h : Rk n P R) (hi : i < n) : cnt (R i) n < n := by
  have := cnt_lt (p := R i) (q := fun _ => true) (i := i) hi (h.ir i) rfl (fun _ _ _ => rfl)
  rw [cnt_t] at this
  exact this
theorem Rk.top (h : Rk n P R) (hP : ∀ i, P i = true) (h0 : 0 < n) : ∃ i, i < n ∧ cnt (R i) n = n - 1 := by
  obtain ⟨i, h1, -, h3⟩ := max_ex (fun _ => true) (fun j => cnt (R j) n) n ⟨0, h0, rfl⟩
  refine ⟨i, h1, ?_⟩
  have := cnt_1 (p := R i) (q := fun _ => true) (i := i) (h.ir i) rfl n h1 (fun k hk ki => by
    rcases h.tri i k (hP i) (hP k) (fun z => ki z.symm) with z | z
    · exact z
    · have h4 := h.lt h1 z
      have h5 : cnt (R k) n ≤ cnt (R i) n := h3 k hk rfl
      omega)
  rw [cnt_t] at this
  omega
end RK
section WHO
variable {v w : Nat → Nat} {p q n i j k r b c y M N L : Nat} {x : Int32}
/-! ranks of those that wait -/
def Wt (v : Nat → Nat) (q i : Nat) : Prop := i < v 2 ∧ v (146 + 7 * i + 4) = 119 ∧ fAhead v i = q
theorem rkW (v : Nat → Nat) : Rk (v 2) (fun p => decide (v (146 + 7 * p + 4) = 119)) (fAhB v) := by
  refine ⟨fun i j h => decide_eq_true (of_decide_eq_true h).1, fun i => decide_eq_false (by omega), fun i j k h1 h2 => ?_, fun i j h1 h2 hn => ?_⟩
  · have a := of_decide_eq_true h1
    have b := of_decide_eq_true h2
    exact decide_eq_true (by omega)
  · have a := of_decide_eq_true h1
    have b := of_decide_eq_true h2
    rcases Nat.lt_trichotomy (v (146 + 7 * i + 3)) (v (146 + 7 * j + 3)) with z | z | z
    · exact Or.inr (decide_eq_true ⟨a, Or.inl z⟩)
    · rcases Nat.lt_trichotomy i j with u | u | u
      · exact Or.inr (decide_eq_true ⟨a, Or.inr ⟨z, u⟩⟩)
      · exact absurd u hn
      · exact Or.inl (decide_eq_true ⟨b, Or.inr ⟨z.symm, u⟩⟩)
    · exact Or.inl (decide_eq_true ⟨b, Or.inl z⟩)
theorem Wt_inj (h1 : Wt v q i) (h2 : Wt v q j) : i = j := fAhead_inj h1.1 h2.1 h1.2.1 h2.2.1 (h1.2.2.trans h2.2.2.symm)
theorem Wt_lt (h1 : Wt v q i) : q < v 2 := by
  rw [← h1.2.2]
  exact (rkW v).lim h1.1
theorem wt_yes (l : v 2 ≤ 16) (h : Wt v q i) : fWaiting v (nI q) = i :=
  ff_at h.1 (decide_eq_true ⟨h.2.1, by rw [h.2.2]⟩) (fun j hj => decide_eq_false (fun z => by
    have h3 := (rkW v).lim (show j < v 2 by have := h.1; omega)
    have h4 := Wt_lt h
    have e := nI_inj (show fAhead v j < 2 ^ 31 by unfold fAhead; omega) (by omega) z.2
    have := Wt_inj (i := j) ⟨by have := h.1; omega, z.1, e⟩ h
    omega))
theorem wt_no (l : v 2 ≤ 16) (hq : q < 2 ^ 31) (h : ∀ i, ¬ Wt v q i) : fWaiting v (nI q) = v 2 :=
  ff_none (fun j hj => decide_eq_false (fun z => by
    have h3 := (rkW v).lim hj
    have e := nI_inj (show fAhead v j < 2 ^ 31 by unfold fAhead; omega) hq z.2
    exact h j ⟨hj, z.1, e⟩))
/-- the ranks are 0 .. m - 1 -/
theorem wt_m (v : Nat → Nat) (l : v 2 ≤ 16) : ∃ m, m ≤ v 2 ∧ (∀ q, q < m → ∃ i, Wt v q i) ∧ ∀ q, m ≤ q → ∀ i, ¬ Wt v q i := by
  obtain ⟨m, h1, h2⟩ := pk_least (fun q => ∀ i, ¬ Wt v q i) ⟨v 2, fun i h => Nat.lt_irrefl _ (Wt_lt h)⟩
  refine ⟨m, ?_, fun q hq => ?_, fun q hq i h => ?_⟩
  · exact Nat.not_lt.mp (fun z => h2 (v 2) z (fun i h => Nat.lt_irrefl _ (Wt_lt h)))
  · have := h2 q hq
    exact Classical.byContradiction (fun z => this (fun i h => z ⟨i, h⟩))
  · obtain ⟨j, a, b2, c⟩ := (rkW v).all (q - m) i h.1 (decide_eq_true h.2.1) m (by have := h.2.2; unfold fAhead at this; omega)
    exact h1 j ⟨a, of_decide_eq_true b2, c⟩
theorem Wt_ord (h1 : Wt v q i) (h2 : Wt v (q + 1) j) : v (146 + 7 * i + 3) < v (146 + 7 * j + 3) ∨ v (146 + 7 * i + 3) = v (146 + 7 * j + 3) ∧ i < j := by
  have hn : i ≠ j := fun e => by
    subst e
    have := h1.2.2.symm.trans h2.2.2
    omega
  rcases (rkW v).tri i j (decide_eq_true h1.2.1) (decide_eq_true h2.2.1) hn with z | z
  · have := (rkW v).lt h2.1 z
    have a : cnt (fAhB v i) (v 2) = q := h1.2.2
    have b : cnt (fAhB v j) (v 2) = q + 1 := h2.2.2
    omega
  · have := of_decide_eq_true z
    omega
/-! ranks of nests -/
theorem rkN (v : Nat → Nat) : Rk (v 0) (fun _ => true) (fRk v) := by
  refine ⟨fun i j h => rfl, fun i => decide_eq_false (by omega), fun i j k h1 h2 => ?_, fun i j h1 h2 hn => ?_⟩
  · have a := of_decide_eq_true h1
    have b := of_decide_eq_true h2
    exact decide_eq_true (by omega)
  · by_cases a : (v (12 + 21 * i + 20) < v (12 + 21 * j + 20) ∨ v (12 + 21 * j + 20) = v (12 + 21 * i + 20) ∧ (v (12 + 21 * j) < v (12 + 21 * i) ∨ v (12 + 21 * j) = v (12 + 21 * i) ∧ j < i))
    · exact Or.inl (decide_eq_true a)
    · exact Or.inr (decide_eq_true (by omega))
theorem nr_c (l : v 0 ≤ 6) (hq : q < 2 ^ 31) (h : fNR v (nI q) < v 0) : cnt (fRk v (fNR v (nI q))) (v 0) = q := by
  have e : nI (cnt (fRk v (fNR v (nI q))) (v 0)) = nI q := of_decide_eq_true (ff_yes (fun i => decide (nI (cnt (fRk v i) (v 0)) = nI q)) (v 0) h)
  have := (rkN v).lim h
  exact nI_inj (by omega) hq e
theorem nr_yes (l : v 0 ≤ 6) (hq : q < v 0) : fNR v (nI q) < v 0 := by
  obtain ⟨t, h1, h2⟩ := (rkN v).top (fun _ => rfl) (by omega)
  obtain ⟨j, a, -, b⟩ := (rkN v).all (v 0 - 1 - q) t h1 rfl q (by omega)
  refine Nat.not_le.mp (fun z => ?_)
  have e : fNR v (nI q) = v 0 := Nat.le_antisymm (ff_le _ _) z
  have := ff_no (fun i => decide (nI (cnt (fRk v i) (v 0)) = nI q)) (v 0) j (by unfold fNR at e; omega)
  exact of_decide_eq_false this (by rw [b])
theorem nr_no (l : v 0 ≤ 6) : ¬ fNR v (nI (v 0)) < v 0 := fun z => by
  have := nr_c l (by omega) z
  have := (rkN v).lim z
  omega
theorem nr_ne (l : v 0 ≤ 6) (hq : q + 1 < v 0) : fNR v (nI (q + 1)) ≠ fNR v (nI q) := fun e => by
  have a := nr_c l (by omega) (nr_yes l hq)
  have b := nr_c l (by omega) (nr_yes l (show q < v 0 by omega))
  rw [e] at a
  omega
/-! who lies where -/
theorem inj_cnt (U : Nat → Bool) (f id : Nat → Nat) : ∀ N (T : Nat → Bool), (∀ c, c < N → U c = true → ∃ q, q < M ∧ T q = true ∧ id q = f c) → (∀ c d, c < d → d < N → U c = true → U d = true → f c ≠ f d) → cnt U N ≤ cnt T M
  | 0, _, _, _ => Nat.zero_le _
  | N + 1, T, h1, h2 => by
    rw [cnt_S]
    by_cases u : U N = true
    · rw [if_pos u]
      obtain ⟨q, q1, q2, q3⟩ := h1 N (Nat.lt_succ_self _) u
      have ih := inj_cnt U f id N (fun k => if k = q then false else T k) (fun c hc uc => by
        obtain ⟨p, p1, p2, p3⟩ := h1 c (by omega) uc
        refine ⟨p, p1, ?_, p3⟩
        show (if p = q then false else T p) = true
        rw [if_neg (fun e => h2 c N hc (Nat.lt_succ_self _) uc u (by rw [← p3, ← q3, e]))]
        exact p2) (fun c d a b => h2 c d a (by omega))
      have := cnt_1 (p := fun k => if k = q then false else T k) (q := T) (i := q) (if_pos rfl) q2 M q1 (fun k _ hk => if_neg hk)
      omega
    · rw [if_neg u]
      exact inj_cnt U f id N T (fun c hc => h1 c (by omega)) (fun c d a b => h2 c d a (by omega))
theorem su_split (T : Nat → Bool) (g : Nat → Nat) : ∀ M, (∀ q, q < M → T q = true → g q < N) → su (fun n => cnt (fun q => decide (T q = true ∧ g q = n)) M) N = cnt T M
  | 0, _ => by
    have : ∀ N, su (fun _ => 0) N = 0 := fun N => by
      induction N with
      | zero => rfl
      | succ N ih => show su _ N + 0 = 0; rw [ih]
    exact this N
  | M + 1, h => by
    have ih := su_split T g M (fun q hq => h q (by omega))
    rw [cnt_S]
    by_cases t : T M = true
    · rw [if_pos t]
      have e := su_1 (f := fun n => cnt (fun q => decide (T q = true ∧ g q = n)) M) (g := fun n => cnt (fun q => decide (T q = true ∧ g q = n)) (M + 1)) (i := g M) (x := cnt (fun q => decide (T q = true ∧ g q = g M)) M) (y := cnt (fun q => decide (T q = true ∧ g q = g M)) M + 1) rfl (by
        show cnt _ (M + 1) = _
        rw [cnt_S, if_pos (decide_eq_true ⟨t, rfl⟩)]) N (h M (Nat.lt_succ_self _) t) (fun k _ hk => by
        show cnt _ M = cnt _ (M + 1)
        rw [cnt_S, if_neg (fun z => hk (of_decide_eq_true z).2.symm)]
        rfl)
      omega
    · rw [if_neg t, ← ih]
      exact su_c N (fun k _ => by
        rw [cnt_S, if_neg (fun z => t (of_decide_eq_true z).1)]
        rfl)
theorem su_eq {f g : Nat → Nat} : ∀ N, (∀ k, k < N → f k ≤ g k) → su f N = su g N → ∀ k, k < N → f k = g k
  | 0, _, _, k, hk => absurd hk (Nat.not_lt_zero _)
  | N + 1, h, e, k, hk => by
    have e2 : su f N + f N = su g N + g N := e
    have l : su f N ≤ su g N := by
      have : ∀ N, (∀ k, k < N → f k ≤ g k) → su f N ≤ su g N := fun N => by
        induction N with
        | zero => intro _; exact Nat.le_refl _
        | succ N ih =>
          intro h
          have a := ih (fun k hk => h k (by omega))
          have b := h N (Nat.lt_succ_self _)
          show su f N + f N ≤ su g N + g N
          omega
      exact this N (fun k hk => h k (by omega))
    have l2 := h N (Nat.lt_succ_self _)
    by_cases c : k = N
    · subst c
      omega
    · exact su_eq N (fun k hk => h k (by omega)) (by omega) k (by omega)
theorem InvA.id (h : InvA v i 0 0) (hp : p < v 2) (hq : q < v 2) (e : v (146 + 7 * p) = v (146 + 7 * q)) : p = q := by
  rcases Nat.lt_trichotomy p q with z | z | z
  · have := h.2.1.2 p q z hq
    omega
  · exact z
  · have := h.2.1.2 q p z hp
    omega
/-- a delivered message lies in its nest's inbox -/
theorem in_box (h : InvA v i 0 0) (hp : p < v 2) (s : v (146 + 7 * p + 4) = 100) : ∃ k, k < v (12 + 21 * v (146 + 7 * p + 1) + 2) ∧ v (12 + 21 * v (146 + 7 * p + 1) + 3 + k) = v (146 + 7 * p) := by
  have hI := h.2.2.2.2.1
  have h6 : cS v 100 = sN v := h.2.2.2.2.2.2
  have sp := su_split (N := v 0) (fun q => decide (v (146 + 7 * q + 4) = 100)) (fun q => v (146 + 7 * q + 1)) (v 2) (fun q hq _ => h.1.2.2 q hq)
  have le : ∀ n, n < v 0 → v (12 + 21 * n + 2) ≤ cnt (fun q => decide (decide (v (146 + 7 * q + 4) = 100) = true ∧ v (146 + 7 * q + 1) = n)) (v 2) := fun n hn => by
    have := inj_cnt (M := v 2) (fun _ => true) (fun k => v (12 + 21 * n + 3 + k)) (fun q => v (146 + 7 * q)) (v (12 + 21 * n + 2)) (fun q => decide (decide (v (146 + 7 * q + 4) = 100) = true ∧ v (146 + 7 * q + 1) = n)) (fun k hk _ => by
      obtain ⟨q, q1, q2, q3, q4⟩ := hI.1 n k hn hk
      exact ⟨q, q1, decide_eq_true ⟨decide_eq_true q3, q4⟩, q2⟩) (fun c d a b _ _ => hI.2 n c d hn a b)
    rw [cnt_t] at this
    exact this
  have eq := su_eq (f := fun n => v (12 + 21 * n + 2)) (v 0) le (by rw [sp]; exact h6.symm) (v (146 + 7 * p + 1)) (h.1.2.2 p hp)
  refine Classical.byContradiction (fun z => ?_)
  have l2 := inj_cnt (M := v 2) (fun _ => true) (fun k => v (12 + 21 * v (146 + 7 * p + 1) + 3 + k)) (fun q => v (146 + 7 * q)) (v (12 + 21 * v (146 + 7 * p + 1) + 2)) (fun q => if q = p then false else decide (decide (v (146 + 7 * q + 4) = 100) = true ∧ v (146 + 7 * q + 1) = v (146 + 7 * p + 1))) (fun k hk _ => by
      obtain ⟨q, q1, q2, q3, q4⟩ := hI.1 _ k (h.1.2.2 p hp) hk
      refine ⟨q, q1, ?_, q2⟩
      show (if q = p then false else _) = true
      rw [if_neg (fun e => z ⟨k, hk, by rw [← q2, e]⟩)]
      exact decide_eq_true ⟨decide_eq_true q3, q4⟩) (fun c d a b _ _ => hI.2 _ c d (h.1.2.2 p hp) a b)
  rw [cnt_t] at l2
  have e1 := cnt_1 (p := fun q => if q = p then false else decide (decide (v (146 + 7 * q + 4) = 100) = true ∧ v (146 + 7 * q + 1) = v (146 + 7 * p + 1))) (q := fun q => decide (decide (v (146 + 7 * q + 4) = 100) = true ∧ v (146 + 7 * q + 1) = v (146 + 7 * p + 1))) (i := p) (if_pos rfl) (decide_eq_true ⟨decide_eq_true s, rfl⟩) (v 2) hp (fun k _ hk => if_neg hk)
  have eq' : v (12 + 21 * v (146 + 7 * p + 1) + 2) = cnt (fun q => decide (decide (v (146 + 7 * q + 4) = 100) = true ∧ v (146 + 7 * q + 1) = v (146 + 7 * p + 1))) (v 2) := eq
  omega
theorem in_not (h : InvA v i 0 0) (hp : p < v 2) (hn : n < v 0) (hk : k < v (12 + 21 * n + 2)) (e : v (12 + 21 * n + 3 + k) = v (146 + 7 * p)) : v (146 + 7 * p + 4) = 100 := by
  obtain ⟨q, q1, q2, q3, q4⟩ := h.2.2.2.2.1.1 n k hn hk
  rw [h.id hp q1 (e.symm.trans q2.symm)]
  exact q3
/-- a flying message has its crow -/
theorem cr_has (h : InvA v i 0 0) (hp : p < v 2) (s : v (146 + 7 * p + 4) = 102) : ∃ c, c < v 1 ∧ v (138 + 2 * c) = v (146 + 7 * p) + 1 := by
  have hC := h.2.2.2.1
  have h5 : cS v 102 = cC v := h.2.2.2.2.2.1
  refine Classical.byContradiction (fun z => ?_)
  have l2 := inj_cnt (M := v 2) (fun c => decide (v (138 + 2 * c) ≠ 0)) (fun c => v (138 + 2 * c)) (fun q => v (146 + 7 * q) + 1) (v 1) (fun q => if q = p then false else decide (v (146 + 7 * q + 4) = 102)) (fun c hc u => by
      obtain ⟨-, q, q1, q2, q3⟩ := hC.1 c hc (of_decide_eq_true u)
      refine ⟨q, q1, ?_, q2⟩
      show (if q = p then false else _) = true
      rw [if_neg (fun e => z ⟨c, hc, by rw [← q2, e]⟩)]
      exact decide_eq_true q3) (fun c d a b u _ => hC.2 c d a b (of_decide_eq_true u))
  have e1 := cnt_1 (p := fun q => if q = p then false else decide (v (146 + 7 * q + 4) = 102)) (q := fun q => decide (v (146 + 7 * q + 4) = 102)) (i := p) (if_pos rfl) (decide_eq_true s) (v 2) hp (fun k _ hk => if_neg hk)
  unfold cS cC at h5
  omega
theorem cr_not (h : InvA v i 0 0) (hp : p < v 2) (hc : c < v 1) (e : v (138 + 2 * c) = v (146 + 7 * p) + 1) : v (146 + 7 * p + 4) = 102 ∧ 1 ≤ v (138 + 2 * c + 1) := by
  obtain ⟨m, q, q1, q2, q3⟩ := h.2.2.2.1.1 c hc (by omega)
  rw [h.id hp q1 (by omega)]
  exact ⟨q3, m⟩
/-! keys -/
theorem ff_S {f : Nat → Nat} {L : Nat} : decide (ff (fun k => decide (f k = y)) (L + 1) < L + 1) = (decide (ff (fun k => decide (f k = y)) L < L) || decide (f L = y)) := by
  have hl := ff_le (fun k => decide (f k = y)) L
  have e : ff (fun k => decide (f k = y)) (L + 1) = if ff (fun k => decide (f k = y)) L < L then ff (fun k => decide (f k = y)) L else if decide (f L = y) = true then L else L + 1 := rfl
  rw [e]
  by_cases c : ff (fun k => decide (f k = y)) L < L
  · rw [if_pos c, decide_eq_true c, decide_eq_true (show ff (fun k => decide (f k = y)) L < L + 1 by omega)]
    rfl
  · rw [if_neg c, decide_eq_false c]
    by_cases d : f L = y
    · rw [if_pos (decide_eq_true d), decide_eq_true d, decide_eq_true (Nat.lt_succ_self L)]
      rfl
    · rw [if_neg (fun z => d (of_decide_eq_true z)), decide_eq_false d, decide_eq_false (Nat.lt_irrefl _)]
      rfl
theorem key_cnt (f : Nat → Nat) : ∀ L, (∀ k, k < L → f k < M) → (∀ j k, j < k → k < L → f j ≠ f k) → cnt (fun y => decide (ff (fun k => decide (f k = y)) L < L)) M = L
  | 0, _, _ => by
    have : ∀ M, cnt (fun y => decide (ff (fun k => decide (f k = y)) 0 < 0)) M = 0 := fun M => by
      induction M with
      | zero => rfl
      | succ M ih => rw [cnt_S, ih]; rfl
    exact this M
  | L + 1, h1, h2 => by
    have ih := key_cnt f L (fun k hk => h1 k (by omega)) (fun j k a b => h2 j k a (by omega))
    have n0 : ff (fun k => decide (f k = f L)) L = L := ff_none (fun j hj => decide_eq_false (h2 j L hj (Nat.lt_succ_self _)))
    have := cnt_1 (p := fun y => decide (ff (fun k => decide (f k = y)) L < L)) (q := fun y => decide (ff (fun k => decide (f k = y)) (L + 1) < L + 1)) (i := f L) (decide_eq_false (by omega)) (by
      show decide (ff (fun k => decide (f k = f L)) (L + 1) < L + 1) = true
      rw [ff_S, decide_eq_true (show f L = f L from rfl), Bool.or_true]) M (h1 L (Nat.lt_succ_self _)) (fun k _ hk => by
      show decide _ = decide _
      rw [ff_S, decide_eq_false (show ¬ f L = k from fun z => hk z.symm), Bool.or_false])
    omega
theorem kn_eq (hy : y < 2 ^ 31) (hk : ∀ k, k < v (12 + 21 * n + 11) → v (12 + 21 * n + 12 + k) ≤ 99) : fKnX v n (nI y) = decide (ff (fun k => decide (v (12 + 21 * n + 12 + k) = y)) (v (12 + 21 * n + 11)) < v (12 + 21 * n + 11)) := by
  unfold fKnX
  rw [ff_c (p := fun k => decide (nI (v (12 + 21 * n + 12 + k)) = nI y)) (q := fun k => decide (v (12 + 21 * n + 12 + k) = y)) _ (fun k h => decide_eq_decide.mpr (nI_eq (by have := hk k h; omega) hy))]
theorem kn_cnt (h : EK v) (hn : n < v 0) : cnt (fun y => fKnX v n (nI y)) 100 = v (12 + 21 * n + 11) := by
  rw [cnt_c (q := fun y => decide (ff (fun k => decide (v (12 + 21 * n + 12 + k) = y)) (v (12 + 21 * n + 11)) < v (12 + 21 * n + 11))) 100 (fun y hy => kn_eq (by omega) (h n hn).1)]
  exact key_cnt (M := 100) (fun k => v (12 + 21 * n + 12 + k)) _ (fun k hk => by have := (h n hn).1 k hk; omega) (h n hn).2
theorem kn_100 (h : EK v) (hn : n < v 0) : fKnX v n (nI 100) = false := by
  rw [kn_eq (by decide) (h n hn).1]
  have : ff (fun k => decide (v (12 + 21 * n + 12 + k) = 100)) (v (12 + 21 * n + 11)) = v (12 + 21 * n + 11) := ff_none (fun j hj => decide_eq_false (by have := (h n hn).1 j hj; omega))
  rw [this]
  exact decide_eq_false (Nat.lt_irrefl _)
end WHO

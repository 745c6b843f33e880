section MOD4
variable {G : mgT} {μ : mmT} {m : Nat} {v : Nat → Nat} {b : Nat}
theorem cnt_le (p : Nat → Bool) : ∀ n, cnt p n ≤ n
  | 0 => Nat.le_refl _
  | n + 1 => by
    have := cnt_le p n
    unfold cnt
    split <;> omega
theorem s_X11_waiting_in {Q : Int32 → Prop} {K2 : Int32 → Int32 → Prop} {a : Nat} {r : Int32} (hm : MS μ m) (hc : v 2 ≤ 16) (ha : a < v 2) (hb : Bd b v) (hb2 : b < 2 ^ 30) (h1 : ¬ nI (fAhead v a) = r → K2 r (nI (a + 1))) (h0 : nI (fAhead v a) = r → Q (nI a)) : ∃ n, w_X11_waiting_l31 G (VT μ m v) m Q K2 n r (nI a) (nI 0) (nI 0) := by
  refine (lpE (W := fun n i => w_X11_waiting_l31 G (VT μ m v) m Q K2 n r (nI a) (nI (cnt (fAhB v a) i)) (nI i)) (N := v 2) ?_ (Nat.zero_le _)).imp fun n hn => hn
  intro n i hi ih
  show w_X11_waiting_b31 G (VT μ m v) m Q K2 _ r (nI a) (nI (cnt (fAhB v a) i)) (nI i)
  unfold w_X11_waiting_b31
  refine ⟨hm.1, rd_s hm (by omega) ?_⟩
  rw [cl (by omega), VT_A]
  have e1 : nI a + nI 1 = nI (a + 1) := nI_add a 1
  refine ⟨fun c => ?_, fun c => ?_⟩
  · have e : i = v 2 := by
      have := (nI_leI (by omega) (by omega)).mp c
      omega
    rw [e]
    refine ⟨fun c2 => ?_, fun c2 => h0 c2⟩
    unfold w_X11_waiting_b113
    rw [e1]
    exact h1 c2
  · have hl : i < v 2 := by
      by_cases q : i < v 2
      · exact q
      · exact absurd (nI_le (by omega) (by omega)) c
    have ih2 := ih hl
    have yes : fAhB v a i = true → w_X11_waiting_b93 G (VT μ m v) m Q K2 (w_X11_waiting_l31 G (VT μ m v) m Q K2 n) r (nI a) (nI i) (nI (cnt (fAhB v a) i)) := fun q => by
      unfold w_X11_waiting_b93 w_X11_waiting_b98
      have e2 : cnt (fAhB v a) (i + 1) = cnt (fAhB v a) i + 1 := by
        show cnt (fAhB v a) i + (if fAhB v a i then 1 else 0) = _
        rw [q]
        rfl
      rw [e2] at ih2
      rw [nI_add, nI_add]
      exact ih2
    have no : ¬ fAhB v a i = true → w_X11_waiting_b97 G (VT μ m v) m Q K2 (w_X11_waiting_l31 G (VT μ m v) m Q K2 n) r (nI a) (nI i) (nI (cnt (fAhB v a) i)) := fun q => by
      unfold w_X11_waiting_b97 w_X11_waiting_b98
      have e2 : cnt (fAhB v a) (i + 1) = cnt (fAhB v a) i + 0 := by
        show cnt (fAhB v a) i + (if fAhB v a i then 1 else 0) = _
        rw [if_neg q]
      rw [e2] at ih2
      rw [nI_add, nI_add]
      exact ih2
    have b3i := hb (146 + 7 * i + 3)
    have b3a := hb (146 + 7 * a + 3)
    have b4i := hb (146 + 7 * i + 4)
    refine s_X11_of hm (by omega) ⟨fun c2 => no (fun q => ?_), fun c2 => ?_⟩
    · have := (of_decide_eq_true q).1
      exact c2 (by rw [this])
    · have hw : v (146 + 7 * i + 4) = 119 := (nI_eq (by omega) (by omega)).mp c2
      refine s_X11_of hm (by omega) (s_X11_of hm (by omega) ⟨fun c3 => yes ?_, fun c3 => ?_⟩)
      · exact decide_eq_true ⟨hw, Or.inl ((nI_ltI (by omega) (by omega)).mp c3)⟩
      · have c3' : ¬ v (146 + 7 * i + 3) < v (146 + 7 * a + 3) := fun q => c3 (nI_lt q (by omega))
        refine s_X11_of hm (by omega) (s_X11_of hm (by omega) ⟨fun c4 => no (fun q => ?_), fun c4 => ⟨fun c5 => no (fun q => ?_), fun c5 => yes ?_⟩⟩)
        · rcases (of_decide_eq_true q).2 with z | z
          · exact c3' z
          · exact c4 (by rw [z.1])
        · have c5' := (nI_leI (by omega) (by omega)).mp c5
          rcases (of_decide_eq_true q).2 with z | z
          · exact c3' z
          · omega
        · have c5' : ¬ a ≤ i := fun q => c5 (nI_le q (by omega))
          exact decide_eq_true ⟨hw, Or.inr ⟨(nI_eq (by omega) (by omega)).mp c4, by omega⟩⟩
theorem s_X11_waiting {Q : Int32 → Prop} {r : Int32} (hm : MS μ m) (hc : v 2 ≤ 16) (hb : Bd b v) (hb2 : b < 2 ^ 30) (h : Q (pn (fWaiting v r) (v 2))) : w_X11_waiting G (VT μ m v) m r Q := by
  unfold w_X11_waiting
  refine (lpE (W := fun n i => (∀ j, j < i → ¬ (v (146 + 7 * j + 4) = 119 ∧ nI (fAhead v j) = r)) → w_X11_waiting_l2 G (VT μ m v) m Q n r (nI i)) (N := v 2) ?_ (Nat.zero_le _)).imp fun n hn => hn (fun j hj => absurd hj (Nat.not_lt_zero _))
  intro n i hi ih h0
  show w_X11_waiting_b2 G (VT μ m v) m Q _ r (nI i)
  unfold w_X11_waiting_b2
  refine ⟨hm.1, rd_s hm (by omega) ?_⟩
  rw [cl (by omega), VT_A]
  refine ⟨fun c => ?_, fun c => ?_⟩
  · have e : i = v 2 := by
      have := (nI_leI (by omega) (by omega)).mp c
      omega
    have e2 : fWaiting v r = v 2 := ff_none (fun j hj => decide_eq_false (h0 j (by omega)))
    rw [e2, pn_n (by omega)] at h
    exact h
  · have hl : i < v 2 := by
      by_cases q : i < v 2
      · exact q
      · exact absurd (nI_le (by omega) (by omega)) c
    have nx : ¬ (v (146 + 7 * i + 4) = 119 ∧ nI (fAhead v i) = r) → w_X11_waiting_l2 G (VT μ m v) m Q n r (nI (i + 1)) := fun q => ih hl (fun j hj => by
      by_cases z : j = i
      · rw [z]
        exact q
      · exact h0 j (by omega))
    refine s_X11_of hm (by omega) ⟨fun c2 => ?_, fun c2 => ?_⟩
    · have hw : v (146 + 7 * i + 4) = 119 := (nI_eq (by have := hb (146 + 7 * i + 4); omega) (by omega)).mp c2
      refine s_X11_waiting_in hm hc hl hb hb2 (fun c3 => nx (fun q => c3 q.2)) (fun c3 => ?_)
      have e2 : fWaiting v r = i := ff_at hl (decide_eq_true ⟨hw, c3⟩) (fun j hj => decide_eq_false (h0 j hj))
      rw [e2, pn_y hl] at h
      exact h
    · unfold w_X11_waiting_b113
      rw [nI_add]
      exact nx (fun q => c2 (by rw [q.1]))
theorem fPl_congr {w : Nat → Nat} {x : Int32} (h2 : w 2 = v 2) (h : ∀ k, 146 ≤ k → w k = v k) : fPl w x = fPl v x := by
  unfold fPl
  rw [h2]
  congr 1
  funext p
  rw [h _ (by omega)]
/-- what an arrival asks -/
def PreArr (b : Nat) (v : Nat → Nat) (id : Nat) : Prop := v 2 ≤ 16 ∧ fPl v (nI id) < v 2 ∧ v (146 + 7 * fPl v (nI id) + 1) < 6 ∧ v (146 + 7 * fPl v (nI id) + 3) ≤ 4 ∧ v (12 + 21 * v (146 + 7 * fPl v (nI id) + 1) + 11) ≤ 8 ∧ Bd b v ∧ b < 2 ^ 27 ∧ id ≤ b
def PreLand (b c : Nat) (v : Nat → Nat) : Prop := v 1 ≤ 4 ∧ Bd b v ∧ b < 2 ^ 27 ∧ (v (138 + 2 * c) ≠ 0 → 1 ≤ v (138 + 2 * c + 1) ∧ (v (138 + 2 * c + 1) = 1 → PreArr b (up (up v (138 + 2 * c + 1) (v (138 + 2 * c + 1) - 1)) (138 + 2 * c) 0) (v (138 + 2 * c) - 1)))
theorem s_X11_minute_l12 {Q : mmT → Prop} (hm : MS μ m) {I : Nat → (Nat → Nat) → Prop} {b N : Nat} (hN : ∀ c w, I c w → w 1 = N) (hI : ∀ c w, I c w → c < N → PreLand b c w ∧ I (c + 1) (fLand c w)) (hN4 : N ≤ 4) : ∀ c v, I c v → c ≤ N → (I N (itr fLand (N - c) c v) → ∃ n, w_X11_minute_l109 G m Q n (nI 0) (VT μ m (itr fLand (N - c) c v))) → ∃ n, w_X11_minute_l12 G m Q n (nI c) (VT μ m v) := by
  intro c v hv hcN hQ2
  refine (lpE (W := fun n i => ∀ v, I i v → (∃ n, w_X11_minute_l109 G m Q n (nI 0) (VT μ m (itr fLand (N - i) i v))) → w_X11_minute_l12 G m Q n (nI i) (VT μ m v)) (N := N) ?_ hcN).imp fun n hn => hn v hv (hQ2 ?_)
  · intro n i hi ih v hv hq
    show w_X11_minute_b12 G m Q _ (nI i) (VT μ m v)
    unfold w_X11_minute_b12
    have h1 := hN i v hv
    refine ⟨hm.1, rd_s hm (by omega) ?_⟩
    rw [cl (by omega), VT_A, h1]
    refine ⟨fun c => ?_, fun c => ?_⟩
    · have e : i = N := by
        have := (nI_leI (by omega) (by omega)).mp c
        omega
      rw [e, Nat.sub_self] at hq
      exact hq
    · have hl : i < N := by
        by_cases q : i < N
        · exact q
        · exact absurd (nI_le (by omega) (by omega)) c
      obtain ⟨⟨-, p1, p2, p3⟩, hI1⟩ := hI i v hv hl
      have hq1 : ∃ n, w_X11_minute_l109 G m Q n (nI 0) (VT μ m (itr fLand (N - (i + 1)) (i + 1) (fLand i v))) := by
        have e : N - i = (N - (i + 1)) + 1 := by omega
        rw [e] at hq
        exact hq
      have nx := ih hl (fLand i v) hI1 hq1
      have e1 : nI 138 + nI 2 * nI i = nI (138 + 2 * i) := by rw [pk_mul, nI_add]
      have e2 : nI (138 + 2 * i) + nI 1 = nI (138 + 2 * i + 1) := nI_add _ _
      rw [e1, e2, cl (show 138 + 2 * i < 2 ^ 31 by omega), cl (show 138 + 2 * i + 1 < 2 ^ 31 by omega), VT_A, VT_A]
      have bc := p1 (138 + 2 * i)
      have bc1 := p1 (138 + 2 * i + 1)
      refine ⟨vin_s hm (by omega), fun c2 => ?_, fun c2 => ?_⟩
      · have c3 : v (138 + 2 * i) ≠ 0 := by
          intro e
          rw [e] at c2
          exact c2 (by decide)
        obtain ⟨q1, q2⟩ := p3 c3
        refine ⟨vin_s hm (by omega), vin_s hm (by omega), ?_⟩
        rw [pk_sub q1, VT_sA]
        refine rd_s hm (by omega) ⟨fun c4 => ⟨vin_s hm (by omega), ?_⟩, fun c4 => ?_⟩
        · rw [VT_A, up_s] at c4
          have c5 : v (138 + 2 * i + 1) = 1 := by
            have := (nI_leI (b := 0) (by omega) (by omega)).mp c4
            omega
          obtain ⟨r1, r2, r3, r4, r5, r6, r7, r8⟩ := q2 c5
          rw [VT_sA, pk_sub (show 1 ≤ v (138 + 2 * i) by omega)]
          refine s_X11_arrives hm r1 r2 r3 r4 r5 r6 r7 r8 ?_
          unfold w_X11_minute_b101
          rw [nI_add]
          unfold fLand at nx
          rw [if_neg c3, if_neg (by omega)] at nx
          exact nx
        · rw [VT_A, up_s] at c4
          have c5 : 1 < v (138 + 2 * i + 1) := by
            by_cases z : v (138 + 2 * i + 1) - 1 = 0
            · rw [z] at c4
              exact absurd (by decide) c4
            · omega
          unfold w_X11_minute_b101
          rw [nI_add]
          unfold fLand at nx
          rw [if_neg c3, if_pos c5] at nx
          exact nx
      · have c3 : v (138 + 2 * i) = 0 := by
          by_cases z : v (138 + 2 * i) = 0
          · exact z
          · rw [pk_sub (by omega)] at c2
            exact absurd c2 (nI_m1 (by omega))
        unfold w_X11_minute_b101
        rw [nI_add]
        unfold fLand at nx
        rw [if_pos c3] at nx
        exact nx
  · clear hQ2
    have : ∀ d c v, I c v → c + d = N → I N (itr fLand d c v) := by
      intro d
      induction d with
      | zero =>
        intro c v hv e
        have e : c = N := by omega
        rw [← e]
        exact hv
      | succ d ih =>
        intro c v hv e
        exact ih (c + 1) (fLand c v) ((hI c v hv (by omega)).2) (by omega)
    exact this (N - c) c v hv (by omega)
end MOD4

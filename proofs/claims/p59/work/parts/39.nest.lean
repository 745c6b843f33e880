/-! A NEST'S METHODS -/
section NESTS
variable {G : mgT} {μ : mmT} {a b n : Nat} {S : cT} {v : Nat → Nat}
theorem sum6 {P : Nat → Prop} {i : Nat} (h : P (a + (6 + 3 * i))) : P (a + (6 + 3 * i)) := h
theorem t_knows {Q : Int32 → Prop} {key : Nat} (hs : SS μ a) (hn : n < v 0) (l : Lim v) (hN : RelN S v) (hb : Bd b v) (hb2 : b < 2 ^ 30) (hkey : key < 2 ^ 30) (h : Q (if fKnows v n key then 1 else 0)) : w_X6_knows G (CT μ a S) (a + (5 + 3 * n)) (nI key) Q := by
  have l0 := l.1.1
  obtain ⟨-, l2, -⟩ := l.2.1 n hn
  obtain ⟨e, -, ek⟩ := hN n hn
  unfold w_X6_knows
  refine (lpE (W := fun d i => (∀ j, j < i → ¬ v (12 + 21 * n + 12 + j) = key) → w_X6_knows_l2 G (CT μ a S) (a + (5 + 3 * n)) Q d (nI key) (nI i)) (N := v (12 + 21 * n + 11)) ?_ (Nat.zero_le _)).imp fun d hd => hd (fun j hj => absurd hj (Nat.not_lt_zero _))
  intro d i hi ih h0
  show w_X6_knows_b2 G (CT μ a S) (a + (5 + 3 * n)) Q _ (nI key) (nI i)
  unfold w_X6_knows_b2
  rw [CT_I (by omega), e.2.2.2.2]
  refine ⟨hs.nk (by omega), fun c => ?_, fun c => ?_⟩
  · have e9 := y_le (by omega) (by omega) c
    have e2 : fKnows v n key = false := by
      unfold fKnows
      rw [ff_none (fun j hj => decide_eq_false (h0 j (by omega)))]
      exact decide_eq_false (Nat.lt_irrefl _)
    rw [e2] at h
    exact h
  · have hl := ng_le (by omega) (by omega) c
    refine ⟨_, hs.nkey (by omega), hs.nkk (by omega), ?_, ?_⟩
    · rw [hs.nkn8 (by omega)]
      exact vp_in_nI (by omega) (by omega)
    · rw [cl (by omega), CT_A (by omega), ek i hl]
      have hb3 := hb (12 + 21 * n + 12 + i)
      refine ⟨fun c2 => ?_, fun c2 => ?_⟩
      · have := ih hl (fun j hj => by
          by_cases q : j = i
          · rw [q]
            intro z
            exact c2 (by rw [z])
          · exact h0 j (by omega))
        rw [nI_add]
        exact this
      · have c3 : v (12 + 21 * n + 12 + i) = key := (nI_eq (by omega) (by omega)).mp c2
        have e2 : fKnows v n key = true := by
          unfold fKnows
          rw [ff_at hl (decide_eq_true c3) (fun j hj => decide_eq_false (h0 j hj))]
          exact decide_eq_true hl
        rw [e2] at h
        exact h
theorem t_hasRoom {Q : Int32 → Prop} (hs : SS μ a) (hn : n < 6) (h8 : v (12 + 21 * n + 2) ≤ 8) (e : cF S 165 (5 + 3 * n) = nI (v (12 + 21 * n + 2))) (h : Q (if v (12 + 21 * n + 2) < 8 then 1 else 0)) : w_X6_hasRoom G (CT μ a S) (a + (5 + 3 * n)) Q := by
  unfold w_X6_hasRoom w_X6_hasRoom_b14
  rw [CT_I (by omega), e]
  refine ⟨hs.nk hn, pk_le 8 (v (12 + 21 * n + 2)) (fun c => ⟨Or.inl rfl, ?_⟩) (fun c => ⟨Or.inr rfl, ?_⟩)⟩
  · rw [if_neg (by omega)] at h
    exact h
  · rw [if_pos (by omega)] at h
    exact h
theorem t_isLost {Q : Int32 → Prop} {p t : Nat} (hs : SS μ a) (l : Lim v) (hS : RelS S v) (hN : RelN S v) (hp : p < v 2) (hc : cP S p < 16) (hM : cF S 128 (27 + cP S p) = nI (v (146 + 7 * p)) ∧ cF S 129 (27 + cP S p) = nI (v (146 + 7 * p + 1))) (hb : Bd b v) (hb2 : b < 2 ^ 28) (ht : t < 2 ^ 28) (h : Q (if fLost v p t then 1 else 0)) : w_X8_isLost G (CT μ a S) a (some (a + (27 + cP S p))) (nI t) Q := by
  have l0 := l.1.1
  have ln := l.2.2 p hp
  unfold w_X8_isLost w_X8_isLost_b37 w_X8_isLost_b38
  refine ⟨_, rfl, hs.mk hc, hs.k0, ?_⟩
  rw [CT_I (by omega), CT_I (by omega), CT_I0, hM.1, hM.2, hS.2.2.2.2]
  refine t_nestAt hs hS l0 (fun n hn e => ?_) (fun e => absurd rfl (e _ ln))
  have e2 : n = v (146 + 7 * p + 1) := ((nI_eq (by omega) (by omega)).mp e).symm
  subst e2
  obtain ⟨en, -, -⟩ := hN _ ln
  obtain ⟨-, -, -, -, l4⟩ := l.2.1 _ ln
  refine ⟨fun z => (nomatch z), fun a6 z => ?_⟩
  cases z
  have b1 := hb (146 + 7 * p)
  have b2 := hb 5
  rw [CT_I (by omega), en.2.1, nI_add, nI_add, pk_rem (by omega) (by decide) (by decide)]
  refine ⟨hs.nk (by omega), pk_le (v (12 + 21 * v (146 + 7 * p + 1) + 1)) ((v (146 + 7 * p) + t + v 5) % 5) (fun c => ⟨Or.inl rfl, ?_⟩) (fun c => ⟨Or.inr rfl, ?_⟩)⟩
  · rw [show fLost v p t = false from decide_eq_false (by omega)] at h
    exact h
  · rw [show fLost v p t = true from decide_eq_true c] at h
    exact h
theorem fLearns_o {j key : Nat} (hn : n < 6) (h8 : v (12 + 21 * n + 11) ≤ 8) (h : j < 12 ∨ 138 ≤ j) : fLearns v n key j = v j := by
  unfold fLearns
  by_cases c : v (12 + 21 * n + 11) = 8
  · rw [if_pos c, if_neg (by omega), if_neg (by omega)]
  · rw [if_neg c, up_n (by omega), up_n (by omega)]
theorem fLearns_ag {w : Nat → Nat} {key : Nat} (hn : n < 6) (h8 : v (12 + 21 * n + 11) ≤ 8) (h : ∀ j, 12 ≤ j → j < 138 → w j = v j) {j : Nat} (h1 : 12 ≤ j) (h2 : j < 138) : fLearns w n key j = fLearns v n key j := by
  unfold fLearns
  rw [h (12 + 21 * n + 11) (by omega) (by omega)]
  by_cases c : v (12 + 21 * n + 11) = 8
  · rw [if_pos c, if_pos c]
    show (if _ then _ else _) = (if _ then _ else _)
    by_cases q : 12 + 21 * n + 12 ≤ j ∧ j < 12 + 21 * n + 19
    · rw [if_pos q, if_pos q, h _ (by omega) (by omega)]
    · rw [if_neg q, if_neg q, h j h1 h2]
  · rw [if_neg c, if_neg c, up_a, up_a, up_a, up_a, h j h1 h2]
theorem t_learn {Q : mmT → Prop} {key : Nat} (hs : SS μ a) (hn : n < v 0) (l : Lim v) (hN : RelN S v) (h : ∀ S', (∀ F k, ¬ (F = 166 ∧ k = 5 + 3 * n) → cF S' F k = cF S F k) → cP S' = cP S → RelN S' (fLearns v n key) → Q (CT μ a S')) : w_X6_learn G (CT μ a S) (a + (5 + 3 * n)) (nI key) Q := by
  have l0 := l.1.1
  obtain ⟨-, l2, -⟩ := l.2.1 n hn
  have en := (hN n hn).1.2.2.2.2
  have c0 : (nI 0).toNatClampNeg = 0 := cl (by decide)
  have c1 : (nI 1).toNatClampNeg = 1 := cl (by decide)
  have c7 : (nI 7).toNatClampNeg = 7 := cl (by decide)
  unfold w_X6_learn w_X6_learn_b30
  rw [CT_I (by omega), en]
  refine ⟨hs.nk (by omega), pk_lt (v (12 + 21 * n + 11)) 8 (fun c => ?_) (fun c => ?_)⟩
  · refine ⟨hs.nk (by omega), _, hs.nkey (by omega), hs.nkk (by omega), ?_, ?_⟩
    · rw [hs.nkn8 (by omega)]
      exact vp_in_nI c (by omega)
    · rw [cl (by omega), CT_sA (by omega), CT_I (by omega), cF_fA, en, nI_add, CT_sI (by omega)]
      refine h _ (fun F k q => ?_) rfl (fun m hm => ?_)
      · rw [cF_fI, if_neg q, cF_fA]
      · rw [fLearns_o (by omega) l2 (by omega)] at hm
        obtain ⟨e, bi, bk⟩ := hN m hm
        obtain ⟨k1, k2, -⟩ := l.2.1 m hm
        unfold fLearns
        rw [if_neg (show ¬ v (12 + 21 * n + 11) = 8 by omega)]
        have hk9 : ∀ d, (d ≠ 11 ∧ d < 12 + v (12 + 21 * n + 11) ∨ m ≠ n ∧ d < 21) → up (up v (12 + 21 * n + 12 + v (12 + 21 * n + 11)) key) (12 + 21 * n + 11) (v (12 + 21 * n + 11) + 1) (12 + 21 * m + d) = v (12 + 21 * m + d) := fun d hd => by rw [up_n (by omega), up_n (by omega)]
        by_cases q : m = n
        · subst q
          refine ⟨⟨?_, ?_, ?_, ?_, ?_⟩, fun k hk => ?_, fun k hk => ?_⟩
          · rw [fI_o (Or.inl (by decide)), cF_fA, up_n (by omega), up_n (by omega)]; exact e.1
          · rw [fI_o (Or.inl (by decide)), cF_fA, hk9 1 (by omega)]; exact e.2.1
          · rw [fI_o (Or.inl (by decide)), cF_fA, up_n (by omega), up_n (by omega)]; exact e.2.2.1
          · rw [fI_o (Or.inl (by decide)), cF_fA, hk9 2 (by omega)]; exact e.2.2.2.1
          · rw [fI_s, up_s]
          · rw [hk9 2 (by omega)] at hk
            rw [cA_fI, cA_fA, if_neg (by omega), up_n (by omega), up_n (by omega)]; exact bi k hk
          · rw [up_s] at hk
            rw [cA_fI, cA_fA, up_n (by omega)]
            by_cases z : k = v (12 + 21 * m + 11)
            · rw [if_pos ⟨rfl, z⟩, z, up_s]
            · rw [if_neg (fun y => z y.2), up_n (by omega)]
              exact bk k (by omega)
        · refine ⟨⟨?_, ?_, ?_, ?_, ?_⟩, fun k hk => ?_, fun k hk => ?_⟩
          · rw [fI_o (Or.inl (by decide)), cF_fA, up_n (by omega), up_n (by omega)]; exact e.1
          · rw [fI_o (Or.inl (by decide)), cF_fA, hk9 1 (by omega)]; exact e.2.1
          · rw [fI_o (Or.inl (by decide)), cF_fA, hk9 20 (by omega)]; exact e.2.2.1
          · rw [fI_o (Or.inl (by decide)), cF_fA, hk9 2 (by omega)]; exact e.2.2.2.1
          · rw [fI_o (Or.inr (by omega)), cF_fA, hk9 11 (by omega)]; exact e.2.2.2.2
          · rw [hk9 2 (by omega)] at hk
            rw [cA_fI, cA_fA, if_neg (by omega), up_n (by omega), up_n (by omega)]; exact bi k hk
          · rw [hk9 11 (by omega)] at hk
            rw [cA_fI, cA_fA, if_neg (by omega), up_n (by omega), up_n (by omega)]; exact bk k hk
  · have e8 : v (12 + 21 * n + 11) = 8 := by omega
    refine ⟨_, hs.nkey (by omega), hs.nkk (by omega), ?_, ?_, ?_⟩
    · rw [hs.nkn8 (by omega), c1, c7]; decide
    · rw [hs.nkn8 (by omega), c0, c7]; decide
    · rw [c0, c1, c7, CT_sC (by omega) (by omega), CT_sI (by omega)]
      refine ⟨hs.nk (by omega), _, hs.nkey (by omega), hs.nkk (by omega), ?_, ?_⟩
      · rw [hs.nkn8 (by omega), CT_I (by omega), fI_s]
        exact vp_in_nI (by decide) (by omega)
      · rw [CT_I (by omega), fI_s, c7, CT_sA (by omega), CT_I (by omega), cF_fA, fI_s, CT_sI (by omega), nI_add]
        refine h _ (fun F k q => ?_) rfl (fun m hm => ?_)
        · rw [cF_fI, if_neg q, cF_fA, cF_fI, if_neg q, cF_fC]
        · rw [fLearns_o (by omega) l2 (by omega)] at hm
          obtain ⟨e, bi, bk⟩ := hN m hm
          obtain ⟨k1, k2, -⟩ := l.2.1 m hm
          unfold fLearns
          rw [if_pos e8]
          have hk9 : ∀ d, (d < 12 ∨ d = 20 ∨ m ≠ n ∧ d < 21) → (if 12 + 21 * n + 12 ≤ 12 + 21 * m + d ∧ 12 + 21 * m + d < 12 + 21 * n + 19 then v (12 + 21 * m + d + 1) else if 12 + 21 * m + d = 12 + 21 * n + 19 then key else v (12 + 21 * m + d)) = v (12 + 21 * m + d) := fun d hd => by rw [if_neg (by omega), if_neg (by omega)]
          refine ⟨⟨?_, ?_, ?_, ?_, ?_⟩, fun k hk => ?_, fun k hk => ?_⟩
          · rw [fI_o (Or.inl (by decide)), cF_fA, fI_o (Or.inl (by decide)), cF_fC]; exact e.1.trans (congrArg nI (hk9 0 (by omega)).symm)
          · rw [fI_o (Or.inl (by decide)), cF_fA, fI_o (Or.inl (by decide)), cF_fC]; exact e.2.1.trans (congrArg nI (hk9 1 (by omega)).symm)
          · rw [fI_o (Or.inl (by decide)), cF_fA, fI_o (Or.inl (by decide)), cF_fC]; exact e.2.2.1.trans (congrArg nI (hk9 20 (by omega)).symm)
          · rw [fI_o (Or.inl (by decide)), cF_fA, fI_o (Or.inl (by decide)), cF_fC]; exact e.2.2.2.1.trans (congrArg nI (hk9 2 (by omega)).symm)
          · refine Eq.trans ?_ (congrArg nI (hk9 11 (by omega)).symm)
            by_cases q : m = n
            · subst q
              rw [fI_s, e8]
            · rw [fI_o (Or.inr (by omega)), cF_fA, fI_o (Or.inr (by omega)), cF_fC]; exact e.2.2.2.2
          · have hk2 : k < v (12 + 21 * m + 2) := by
              have := hk9 2 (by omega)
              omega
            rw [cA_fI, cA_fA, if_neg (by omega), cA_fI, cA_fC, if_neg (by omega), bi k hk2]
            exact congrArg nI (by rw [if_neg (by omega), if_neg (by omega)])
          · have hk2 : k < v (12 + 21 * m + 11) := by
              have := hk9 11 (by omega)
              omega
            rw [cA_fI, cA_fA, cA_fI, cA_fC]
            by_cases q : m = n
            · subst q
              by_cases z : k = 7
              · rw [if_pos ⟨rfl, z⟩]
                exact congrArg nI (by rw [if_neg (by omega), if_pos (by omega)])
              · rw [if_neg (fun y => z y.2), if_pos (by omega)]
                have := bk (1 + (k - 0)) (by omega)
                rw [this]
                exact congrArg nI (by rw [if_pos (by omega), show 12 + 21 * m + 12 + (1 + (k - 0)) = 12 + 21 * m + 12 + k + 1 by omega])
            · rw [if_neg (by omega), if_neg (by omega), bk k hk2]
              exact congrArg nI (by rw [if_neg (by omega), if_neg (by omega)])
end NESTS

/-! A STATE OF THE CLASS, AND WHAT IT SAYS OF THE REFERENCE'S ROW v -/
def SS (μ : mmT) (a : Nat) : Prop := mK μ a = 8 ∧ (mR μ 224 a = some (a + 1) ∧ mR μ 225 a = some (a + 2) ∧ mR μ 226 a = some (a + 3) ∧ mR μ 227 a = some (a + 4)) ∧ (mK μ (a + 1) = 40 ∧ mK μ (a + 2) = 38 ∧ mK μ (a + 3) = 39 ∧ mK μ (a + 4) = 9) ∧ (mN μ (a + 1) = 6 ∧ mN μ (a + 2) = 4 ∧ mN μ (a + 3) = 16) ∧
  (∀ i, i < 6 → mB μ (a + 1) i = some (a + (5 + 3 * i)) ∧ mK μ (a + (5 + 3 * i)) = 6 ∧ mR μ 160 (a + (5 + 3 * i)) = some (a + (6 + 3 * i)) ∧ mR μ 161 (a + (5 + 3 * i)) = some (a + (7 + 3 * i)) ∧ mK μ (a + (6 + 3 * i)) = 34 ∧ mK μ (a + (7 + 3 * i)) = 34 ∧ mN μ (a + (6 + 3 * i)) = 8 ∧ mN μ (a + (7 + 3 * i)) = 8) ∧
  (∀ i, i < 4 → mB μ (a + 2) i = some (a + (23 + i)) ∧ mK μ (a + (23 + i)) = 3) ∧ (∀ k, k < 16 → mK μ (a + (27 + k)) = 5)
section SSN
variable {μ : mmT} {a i k : Nat} {S : cT}
theorem SS.k0 (h : SS μ a) : mK (CT μ a S) a = 8 := h.1
theorem SS.r1 (h : SS μ a) : mR (CT μ a S) 224 a = some (a + 1) := h.2.1.1
theorem SS.r2 (h : SS μ a) : mR (CT μ a S) 225 a = some (a + 2) := h.2.1.2.1
theorem SS.r3 (h : SS μ a) : mR (CT μ a S) 226 a = some (a + 3) := h.2.1.2.2.1
theorem SS.r4 (h : SS μ a) : mR (CT μ a S) 227 a = some (a + 4) := h.2.1.2.2.2
theorem SS.k1 (h : SS μ a) : mK (CT μ a S) (a + 1) = 40 := h.2.2.1.1
theorem SS.k2 (h : SS μ a) : mK (CT μ a S) (a + 2) = 38 := h.2.2.1.2.1
theorem SS.k3 (h : SS μ a) : mK (CT μ a S) (a + 3) = 39 := h.2.2.1.2.2.1
theorem SS.k4 (h : SS μ a) : mK (CT μ a S) (a + 4) = 9 := h.2.2.1.2.2.2
theorem SS.n1 (h : SS μ a) : mN (CT μ a S) (a + 1) = 6 := h.2.2.2.1.1
theorem SS.n2 (h : SS μ a) : mN (CT μ a S) (a + 2) = 4 := h.2.2.2.1.2.1
theorem SS.n3 (h : SS μ a) : mN (CT μ a S) (a + 3) = 16 := h.2.2.2.1.2.2
theorem SS.nb (h : SS μ a) (hi : i < 6) : mB (CT μ a S) (a + 1) i = some (a + (5 + 3 * i)) := (CT_Bo (by omega)).trans (h.2.2.2.2.1 i hi).1
theorem SS.nk (h : SS μ a) (hi : i < 6) : mK (CT μ a S) (a + (5 + 3 * i)) = 6 := (h.2.2.2.2.1 i hi).2.1
theorem SS.nin (h : SS μ a) (hi : i < 6) : mR (CT μ a S) 160 (a + (5 + 3 * i)) = some (a + (6 + 3 * i)) := (h.2.2.2.2.1 i hi).2.2.1
theorem SS.nkey (h : SS μ a) (hi : i < 6) : mR (CT μ a S) 161 (a + (5 + 3 * i)) = some (a + (7 + 3 * i)) := (h.2.2.2.2.1 i hi).2.2.2.1
theorem SS.nik (h : SS μ a) (hi : i < 6) : mK (CT μ a S) (a + (6 + 3 * i)) = 34 := (h.2.2.2.2.1 i hi).2.2.2.2.1
theorem SS.nkk (h : SS μ a) (hi : i < 6) : mK (CT μ a S) (a + (7 + 3 * i)) = 34 := (h.2.2.2.2.1 i hi).2.2.2.2.2.1
theorem SS.nin8 (h : SS μ a) (hi : i < 6) : mN (CT μ a S) (a + (6 + 3 * i)) = 8 := (h.2.2.2.2.1 i hi).2.2.2.2.2.2.1
theorem SS.nkn8 (h : SS μ a) (hi : i < 6) : mN (CT μ a S) (a + (7 + 3 * i)) = 8 := (h.2.2.2.2.1 i hi).2.2.2.2.2.2.2
theorem SS.cb (h : SS μ a) (hi : i < 4) : mB (CT μ a S) (a + 2) i = some (a + (23 + i)) := (CT_Bo (by omega)).trans (h.2.2.2.2.2.1 i hi).1
theorem SS.ck (h : SS μ a) (hi : i < 4) : mK (CT μ a S) (a + (23 + i)) = 3 := (h.2.2.2.2.2.1 i hi).2
theorem SS.mk (h : SS μ a) (hk : k < 16) : mK (CT μ a S) (a + (27 + k)) = 5 := h.2.2.2.2.2.2 k hk
/-- a look at the messages' array, the crows', the nests' -/
theorem gm {P : Nat → Prop} (h : SS μ a) (hi : i < 16) (hp : P (a + 3)) : ∃ b, mR (CT μ a S) 226 a = some b ∧ (mK (CT μ a S) b = 39 ∧ (vp_in (nI i) (mN (CT μ a S) b) ∧ P b)) := by
  refine ⟨a + 3, h.r3, h.k3, ?_, hp⟩
  rw [h.n3]
  exact vp_in_nI hi (by omega)
theorem gc {P : Nat → Prop} (h : SS μ a) (hi : i < 4) (hp : P (a + 2)) : ∃ b, mR (CT μ a S) 225 a = some b ∧ (mK (CT μ a S) b = 38 ∧ (vp_in (nI i) (mN (CT μ a S) b) ∧ P b)) := by
  refine ⟨a + 2, h.r2, h.k2, ?_, hp⟩
  rw [h.n2]
  exact vp_in_nI hi (by omega)
theorem gn {P : Nat → Prop} (h : SS μ a) (hi : i < 6) (hp : P (a + 1)) : ∃ b, mR (CT μ a S) 224 a = some b ∧ (mK (CT μ a S) b = 40 ∧ (vp_in (nI i) (mN (CT μ a S) b) ∧ P b)) := by
  refine ⟨a + 1, h.r1, h.k1, ?_, hp⟩
  rw [h.n1]
  exact vp_in_nI hi (by omega)
/-- the entry's object -/
theorem gmo {P : Nat → Prop} (h : SS μ a) (hi : i < 2 ^ 31) (hc : cP S i < 16) (hp : P (a + (27 + cP S i))) : ∃ b, mB (CT μ a S) (a + 3) (nI i).toNatClampNeg = some b ∧ (mK (CT μ a S) b = 5 ∧ P b) := by
  rw [cl hi]
  exact ⟨_, CT_B, h.mk hc, hp⟩
theorem gco {P : Nat → Prop} (h : SS μ a) (hi : i < 4) (hp : P (a + (23 + i))) : ∃ b, mB (CT μ a S) (a + 2) (nI i).toNatClampNeg = some b ∧ (mK (CT μ a S) b = 3 ∧ P b) := by
  rw [cl (by omega)]
  exact ⟨_, h.cb hi, h.ck hi, hp⟩
theorem gno {P : Nat → Prop} (h : SS μ a) (hi : i < 6) (hp : P (a + (5 + 3 * i))) : ∃ b, mB (CT μ a S) (a + 1) (nI i).toNatClampNeg = some b ∧ (mK (CT μ a S) b = 6 ∧ P b) := by
  rw [cl (by omega)]
  exact ⟨_, h.nb hi, h.nk hi, hp⟩
theorem gt {P : Nat → Prop} (h : SS μ a) (hp : P (a + 4)) : ∃ b, mR (CT μ a S) 227 a = some b ∧ (mK (CT μ a S) b = 9 ∧ P b) := ⟨_, h.r4, h.k4, hp⟩
end SSN
def RelS (S : cT) (v : Nat → Nat) : Prop := cF S 228 0 = nI (v 0) ∧ cF S 229 0 = nI (v 1) ∧ cF S 230 0 = nI (v 2) ∧ cF S 231 0 = nI (v 4) ∧ cF S 232 0 = nI (v 5)
def RelT (S : cT) (v : Nat → Nat) : Prop := cF S 256 4 = nI (v 3) ∧ cF S 257 4 = nI (v 6) ∧ cF S 258 4 = nI (v 7) ∧ cF S 259 4 = nI (v 8) ∧ cF S 260 4 = nI (v 9) ∧ cF S 261 4 = nI (v 11) ∧ cF S 262 4 = nI (v 10)
def RelN (S : cT) (v : Nat → Nat) : Prop := ∀ n, n < v 0 → (cF S 162 (5 + 3 * n) = nI (v (12 + 21 * n)) ∧ cF S 163 (5 + 3 * n) = nI (v (12 + 21 * n + 1)) ∧ cF S 164 (5 + 3 * n) = nI (v (12 + 21 * n + 20)) ∧ cF S 165 (5 + 3 * n) = nI (v (12 + 21 * n + 2)) ∧ cF S 166 (5 + 3 * n) = nI (v (12 + 21 * n + 11))) ∧
  (∀ k, k < v (12 + 21 * n + 2) → cA S (6 + 3 * n) k = nI (v (12 + 21 * n + 3 + k))) ∧ (∀ k, k < v (12 + 21 * n + 11) → cA S (7 + 3 * n) k = nI (v (12 + 21 * n + 12 + k)))
def RelC (S : cT) (v : Nat → Nat) (jc : Nat) : Prop := ∀ c, c < v 1 → cF S 64 (23 + c) = (if v (138 + 2 * c) = 0 then 0 else 1) ∧ (v (138 + 2 * c) ≠ 0 → cF S 65 (23 + c) = nI (v (138 + 2 * c) - 1) ∧ cF S 66 (23 + c) = nI (v 4 + v (138 + 2 * c + 1) - (if jc ≤ c then 1 else 0)))
def RelM (S : cT) (v : Nat → Nat) (jm : Nat) : Prop := ∀ p, p < v 2 → (cF S 128 (27 + cP S p) = nI (v (146 + 7 * p)) ∧ cF S 129 (27 + cP S p) = nI (v (146 + 7 * p + 1)) ∧ cF S 130 (27 + cP S p) = nI (v (146 + 7 * p + 2)) ∧ cF S 131 (27 + cP S p) = nI (v (146 + 7 * p + 3)) ∧ cF S 132 (27 + cP S p) = nI (v (146 + 7 * p + 4))) ∧
  (v (146 + 7 * p + 4) = 110 → cF S 133 (27 + cP S p) = nI (v 4 + v (146 + 7 * p + 5) - (if jm ≤ p ∧ v (146 + 7 * p + 6) = 0 then 1 else 0)))
def RelP (S : cT) : Prop := ∀ p, p < 16 → cP S p < 16 ∧ ∀ q, q < 16 → cP S q = cP S p → q = p
def RelZ (S : cT) : Prop := (∀ k, k < 16 → isCh (cF S 132 (27 + k))) ∧ (∀ c, c < 4 → cF S 64 (23 + c) = 0 ∨ cF S 64 (23 + c) = 1)
def Rel (S : cT) (v : Nat → Nat) (jc jm : Nat) : Prop := RelS S v ∧ RelT S v ∧ RelN S v ∧ RelC S v jc ∧ RelM S v jm ∧ RelP S ∧ RelZ S
section RELO
variable {G : mgT} {μ : mmT} {a b : Nat} {S : cT} {v : Nat → Nat}
theorem ng_le {i n : Nat} (hn : n < 2 ^ 31) (hi : i < 2 ^ 31) (h : ¬ nI n ≤ nI i) : i < n := nlt_of hi h
theorem y_le {i n : Nat} (hn : n < 2 ^ 31) (hi : i < 2 ^ 31) (h : nI n ≤ nI i) : n ≤ i := (nI_leI hn hi).mp h
theorem t_rowOf {Q : Int32 → Prop} {x : Int32} (hs : SS μ a) (hS : RelS S v) (hp : ∀ p, p < v 2 → cP S p < 16 ∧ cF S 128 (27 + cP S p) = nI (v (146 + 7 * p))) (h2 : v 2 ≤ 16) (h : Q (pn (fPl v x) (v 2))) : w_X8_rowOf G (CT μ a S) a x Q := by
  unfold w_X8_rowOf
  refine (lpE (W := fun n i => (∀ j, j < i → ¬ nI (v (146 + 7 * j)) = x) → w_X8_rowOf_l2 G (CT μ a S) a Q n x (nI i)) (N := v 2) ?_ (Nat.zero_le _)).imp fun n hn => hn (fun j hj => absurd hj (Nat.not_lt_zero _))
  intro n i hi ih h0
  show w_X8_rowOf_b2 G (CT μ a S) a Q _ x (nI i)
  unfold w_X8_rowOf_b2
  rw [CT_I0, hS.2.2.1]
  refine ⟨hs.k0, fun c => ?_, fun c => ?_⟩
  · have e := y_le (by omega) (by omega) c
    have e2 : fPl v x = v 2 := ff_none (fun j hj => decide_eq_false (h0 j (by omega)))
    rw [e2, pn_n (by omega)] at h
    exact h
  · have hl := ng_le (by omega) (by omega) c
    obtain ⟨q1, q2⟩ := hp i hl
    refine gm hs (by omega) (gmo hs (by omega) q1 ?_)
    rw [CT_I (by omega), q2]
    refine ⟨fun c2 => ?_, fun c2 => ?_⟩
    · have := ih hl (fun j hj => by
        by_cases q : j = i
        · rw [q]
          exact c2
        · exact h0 j (by omega))
      rw [nI_add]
      exact this
    · have e2 : fPl v x = i := ff_at hl (decide_eq_true c2) (fun j hj => decide_eq_false (h0 j hj))
      rw [e2, pn_y hl] at h
      exact h
theorem t_messageWith {Q : Option Nat → Prop} {x : Int32} (hs : SS μ a) (hS : RelS S v) (hp : ∀ p, p < v 2 → cP S p < 16 ∧ cF S 128 (27 + cP S p) = nI (v (146 + 7 * p))) (h2 : v 2 ≤ 16) (h : Q (if fPl v x < v 2 then some (a + (27 + cP S (fPl v x))) else none)) : w_X8_messageWith G (CT μ a S) a x Q := by
  unfold w_X8_messageWith w_X8_messageWith_b21
  refine ⟨hs.k0, t_rowOf hs hS hp h2 ?_⟩
  by_cases c : fPl v x < v 2
  · rw [if_pos c] at h
    rw [pn_y c]
    refine ⟨fun _ => gm hs (by omega) ?_, fun z => absurd z (nI_m1 (by omega))⟩
    rw [cl (by omega), CT_B]
    exact h
  · rw [if_neg c] at h
    rw [pn_n c]
    exact ⟨fun z => absurd rfl z, fun _ => h⟩
theorem nI_nneg {n : Nat} (h : n < 2 ^ 31) : ¬ nI n < 0 := Int32.not_lt.mpr (nI_le (a := 0) (by omega) h)
theorem t_nestAt {Q : Option Nat → Prop} {x : Int32} (hs : SS μ a) (hS : RelS S v) (h0 : v 0 ≤ 6) (h1 : ∀ n, n < v 0 → x = nI n → Q (some (a + (5 + 3 * n)))) (h2 : (∀ n, n < v 0 → x ≠ nI n) → Q none) : w_X8_nestAt G (CT μ a S) a x Q := by
  unfold w_X8_nestAt w_X8_nestAt_b12 w_X8_nestAt_b22
  refine ⟨fun c => h2 (fun n hn e => nI_nneg (by omega) (e ▸ c)), fun c => ⟨hs.k0, ?_⟩⟩
  rw [CT_I0, hS.1]
  refine ⟨fun c2 => ?_, fun c2 => h2 (fun n hn e => c2 (by rw [e]; exact (nI_ltI (by omega) (by omega)).mpr hn))⟩
  rcases pk_ix x (n := v 0) (by omega) with q | q | q
  · exact absurd q c
  · exact absurd c2 (Int32.not_lt.mpr q)
  · obtain ⟨n, hn, rfl⟩ := q
    refine gn hs (by omega) ?_
    rw [cl (by omega), hs.nb (by omega)]
    exact h1 n hn rfl
end RELO

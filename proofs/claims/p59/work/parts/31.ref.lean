/-! THE REFERENCE AS FUNCTIONS OF ITS ROW OF NUMBERS -/
/-- the first place below n that holds, or n -/
def ff (p : Nat → Bool) : Nat → Nat
  | 0 => 0
  | n + 1 => if ff p n < n then ff p n else if p n then n else n + 1
theorem ff_le (p : Nat → Bool) : ∀ n, ff p n ≤ n
  | 0 => Nat.le_refl _
  | n + 1 => by
    have ih := ff_le p n
    unfold ff
    split
    · omega
    · split <;> omega
theorem ff_yes (p : Nat → Bool) : ∀ n, ff p n < n → p (ff p n) = true
  | 0, h => absurd h (Nat.not_lt_zero _)
  | n + 1, h => by
    have ih := ff_yes p n
    unfold ff at h ⊢
    by_cases h1 : ff p n < n
    · rw [if_pos h1] at h ⊢
      exact ih h1
    · rw [if_neg h1] at h ⊢
      by_cases h2 : p n = true
      · rw [if_pos h2]
        exact h2
      · rw [if_neg h2] at h
        omega
theorem ff_no (p : Nat → Bool) : ∀ n k, k < ff p n → p k = false
  | 0, k, h => absurd h (Nat.not_lt_zero _)
  | n + 1, k, h => by
    have ih := ff_no p n
    have hl := ff_le p n
    unfold ff at h
    by_cases h1 : ff p n < n
    · rw [if_pos h1] at h
      exact ih k h
    · rw [if_neg h1] at h
      have e : ff p n = n := by omega
      by_cases h2 : p n = true
      · rw [if_pos h2] at h
        exact ih k (by omega)
      · rw [if_neg h2] at h
        by_cases hk : k = n
        · rw [hk]
          exact Bool.eq_false_iff.mpr h2
        · exact ih k (by omega)
/-- found here -/
theorem ff_at {p : Nat → Bool} {n k : Nat} (hk : k < n) (h : p k = true) (h0 : ∀ j, j < k → p j = false) : ff p n = k := by
  rcases Nat.lt_trichotomy (ff p n) k with q | q | q
  · have := ff_yes p n (by omega)
    rw [h0 _ q] at this
    cases this
  · exact q
  · have := ff_no p n k q
    rw [h] at this
    cases this
theorem ff_none {p : Nat → Bool} {n : Nat} (h : ∀ j, j < n → p j = false) : ff p n = n := by
  have hl := ff_le p n
  by_cases q : ff p n < n
  · have := ff_yes p n q
    rw [h _ q] at this
    cases this
  · omega
/-- counting up to N -/
theorem lpU {W : Nat → Nat → Prop} {N : Nat} (hs : ∀ n i, i ≤ N → (i < N → W n (i + 1)) → W (n + 1) i) : ∀ d i, i + d = N → W (d + 1) i
  | 0, i, e => hs 0 i (by omega) (fun h => absurd h (by omega))
  | d + 1, i, e => hs (d + 1) i (by omega) (fun _ => lpU hs d (i + 1) (by omega))
theorem lpE {W : Nat → Nat → Prop} {N : Nat} (hs : ∀ n i, i ≤ N → (i < N → W n (i + 1)) → W (n + 1) i) {i : Nat} (h : i ≤ N) : ∃ n, W n i := ⟨N - i + 1, lpU hs (N - i) i (by omega)⟩
/-- a place, or -1 -/
def pn (p n : Nat) : Int32 := if p < n then nI p else -1
theorem pn_y {p n : Nat} (h : p < n) : pn p n = nI p := if_pos h
theorem pn_n {p n : Nat} (h : ¬ p < n) : pn p n = -1 := if_neg h
theorem nI_m1 {p : Nat} (h : p < 2 ^ 31) : ¬ nI p = -1 := by
  intro e
  have h1 := congrArg Int32.toInt e
  rw [nI_toInt h] at h1
  have h2 : (-1 : Int32).toInt = -1 := by decide
  omega
theorem pn_ne {p n : Nat} (h : n < 2 ^ 31) : pn p n = -1 ↔ ¬ p < n := by
  by_cases q : p < n
  · rw [pn_y q]
    exact ⟨fun e => absurd e (nI_m1 (by omega)), fun e => absurd q e⟩
  · rw [pn_n q]
    exact ⟨fun _ => q, fun _ => rfl⟩
/-- any place of v is at most b -/
def Bd (b : Nat) (v : Nat → Nat) : Prop := ∀ k, v k ≤ b
theorem Bd_up {b : Nat} {v : Nat → Nat} {k x : Nat} (h : Bd b v) (hx : x ≤ b) : Bd b (up v k x) := fun j => by
  rw [up_a]
  split
  · exact hx
  · exact h j
theorem Bd_mono {b c : Nat} {v : Nat → Nat} (h : Bd b v) (hc : b ≤ c) : Bd c v := fun k => Nat.le_trans (h k) hc
/-- messages that stand -/
def fPl (v : Nat → Nat) (x : Int32) : Nat := ff (fun p => decide (nI (v (146 + 7 * p)) = x)) (v 2)
def fCeases (v : Nat → Nat) (p : Nat) : Nat → Nat := fun k =>
  if k = 2 then v 2 - 1 else if 146 + 7 * p ≤ k ∧ k < 146 + 7 * (v 2 - 1) then v (k + 7) else if 146 + 7 * (v 2 - 1) ≤ k ∧ k < 146 + 7 * (v 2 - 1) + 7 then 0 else v k
def fKnows (v : Nat → Nat) (n key : Nat) : Bool := decide (ff (fun k => decide (v (12 + 21 * n + 12 + k) = key)) (v (12 + 21 * n + 11)) < v (12 + 21 * n + 11))
def fLearns (v : Nat → Nat) (n key : Nat) : Nat → Nat :=
  if v (12 + 21 * n + 11) = 8 then fun k => if 12 + 21 * n + 12 ≤ k ∧ k < 12 + 21 * n + 19 then v (k + 1) else if k = 12 + 21 * n + 19 then key else v k
  else up (up v (12 + 21 * n + 12 + v (12 + 21 * n + 11)) key) (12 + 21 * n + 11) (v (12 + 21 * n + 11) + 1)
def fLost (v : Nat → Nat) (p tries : Nat) : Bool := decide ((v (146 + 7 * p) + tries + v 5) % 5 < v (12 + 21 * v (146 + 7 * p + 1) + 1))
/-- an arrival of the message at p, its attempts counted, the arrival counted -/
def fArr1 (v : Nat → Nat) (p : Nat) : Nat → Nat := up (up v (146 + 7 * p + 3) (v (146 + 7 * p + 3) + 1)) 10 (v 10 + 1)
/-- it is delivered -/
def fDeliv (v : Nat → Nat) (p n : Nat) : Nat → Nat :=
  fLearns (up (up (up (up (up v (146 + 7 * p + 4) 100) (12 + 21 * n + 3 + v (12 + 21 * n + 2)) (v (146 + 7 * p))) (12 + 21 * n + 2) (v (12 + 21 * n + 2) + 1)) (12 + 21 * n + 20) (v (12 + 21 * n + 20) + 1)) 6 (v 6 + 1)) n (v (146 + 7 * p + 2))
def fNap (v : Nat → Nat) (p tries : Nat) : Nat → Nat := up (up (up v (146 + 7 * p + 4) 110) (146 + 7 * p + 5) (2 ^ tries)) (146 + 7 * p + 6) 1
def fArrP (v : Nat → Nat) (p : Nat) : Nat → Nat :=
  let w := fArr1 v p
  let n := v (146 + 7 * p + 1)
  let t := v (146 + 7 * p + 3) + 1
  if fLost w p t = false ∧ fKnows w n (w (146 + 7 * p + 2)) = true then fCeases (up w 8 (w 8 + 1)) p
  else if fLost w p t = false ∧ w (12 + 21 * n + 2) < 8 then fDeliv w p n
  else if t = 5 then fCeases (up w 9 (w 9 + 1)) p
  else fNap w p t
def fArrives (v : Nat → Nat) (id : Nat) : Nat → Nat := fArrP v (fPl v (nI id))
/-- waiting messages ahead of that at a -/
def fAhB (v : Nat → Nat) (a : Nat) : Nat → Bool := fun b => decide (v (146 + 7 * b + 4) = 119 ∧ (v (146 + 7 * b + 3) < v (146 + 7 * a + 3) ∨ v (146 + 7 * b + 3) = v (146 + 7 * a + 3) ∧ b < a))
def cnt (p : Nat → Bool) : Nat → Nat
  | 0 => 0
  | n + 1 => cnt p n + (if p n then 1 else 0)
def fAhead (v : Nat → Nat) (a : Nat) : Nat := cnt (fAhB v a) (v 2)
def fWaiting (v : Nat → Nat) (r : Int32) : Nat := ff (fun a => decide (v (146 + 7 * a + 4) = 119 ∧ nI (fAhead v a) = r)) (v 2)
/-- f at i, i + 1 .. : d times -/
def itr (f : Nat → (Nat → Nat) → Nat → Nat) : Nat → Nat → (Nat → Nat) → Nat → Nat
  | 0, _, v => v
  | d + 1, i, v => itr f d (i + 1) (f i v)
def fLand (c : Nat) (v : Nat → Nat) : Nat → Nat :=
  if v (138 + 2 * c) = 0 then v else if 1 < v (138 + 2 * c + 1) then up v (138 + 2 * c + 1) (v (138 + 2 * c + 1) - 1)
  else fArrives (up (up v (138 + 2 * c + 1) (v (138 + 2 * c + 1) - 1)) (138 + 2 * c) 0) (v (138 + 2 * c) - 1)
def fWake (p : Nat) (v : Nat → Nat) : Nat → Nat :=
  if v (146 + 7 * p + 4) = 110 then (if v (146 + 7 * p + 6) = 1 then up v (146 + 7 * p + 6) 0 else if v (146 + 7 * p + 5) = 1 then up (up v (146 + 7 * p + 5) 0) (146 + 7 * p + 4) 119 else up v (146 + 7 * p + 5) (v (146 + 7 * p + 5) - 1)) else v
def fSendP (c : Nat) (v : Nat → Nat) (p : Nat) : Nat → Nat :=
  up (up (up v (146 + 7 * p + 4) 102) (138 + 2 * c) (v (146 + 7 * p) + 1)) (138 + 2 * c + 1) (v (12 + 21 * v (146 + 7 * p + 1)) + if 5 < v 5 then 1 else 0)
def fSend (c : Nat) (v : Nat → Nat) : Nat → Nat :=
  if v (138 + 2 * c) = 0 then (if fWaiting v 0 < v 2 then fSendP c v (fWaiting v 0) else v) else v
def fTick (v : Nat → Nat) : Nat → Nat := up v 4 (v 4 + 1)
def fMinute (v : Nat → Nat) : Nat → Nat :=
  let a := itr fLand (v 1) 0 (fTick v)
  let b := itr fWake (a 2) 0 a
  itr fSend (b 1) 0 b

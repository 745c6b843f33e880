/-! ONE STATE OUT OF ANOTHER -/
section COPY
variable {G : mgT} {μ : mmT} {a c : Nat} {S S2 S' : cT} {v w : Nat → Nat} {p n i d e t b x y k F : Nat}
theorem SS_in (h : SS μ a) (hd : a + 43 ≤ c ∨ c + 43 ≤ a) : SS (CT μ c S2) a := by
  obtain ⟨h0, h1, h2, h3, h4, h5, h6⟩ := h
  exact ⟨h0, h1, h2, h3, fun i hi => ⟨(CT_Bo (by omega)).trans (h4 i hi).1, (h4 i hi).2⟩, fun i hi => ⟨(CT_Bo (by omega)).trans (h5 i hi).1, (h5 i hi).2⟩, h6⟩
theorem rc_I (hd : a + 43 ≤ c ∨ c + 43 ≤ a) (hk : k < 43) : mI (CT (CT μ c S2) a S) F (c + k) = cF S2 F k := (CT_Io (by omega)).trans (CT_I hk)
theorem rc_A {j : Nat} (hd : a + 43 ≤ c ∨ c + 43 ≤ a) (hk : k < 43) : mA (CT (CT μ c S2) a S) (c + k) j = cA S2 k j := (CT_Ao (by omega)).trans (CT_A hk)
/-- an array's part out of the other block -/
def fX (S S2 : cT) (k sp k2 dp n : Nat) : cT := (cF S, fun b i => if b = k2 ∧ dp ≤ i ∧ i < dp + n then cA S2 k (sp + (i - dp)) else cA S b i, cP S)
theorem CT_sX {sp dp k2 : Nat} (hd : a + 43 ≤ c ∨ c + 43 ≤ a) (h : k < 43) (h2 : k2 < 43) : sC (CT (CT μ c S2) a S) (c + k) sp (a + k2) dp n = CT (CT μ c S2) a (fX S S2 k sp k2 dp n) := by
  refine mm_ext rfl rfl rfl rfl ?_ rfl rfl rfl
  funext b j
  show (if b = a + k2 ∧ dp ≤ j ∧ j < dp + n then mA (CT (CT μ c S2) a S) (c + k) (sp + (j - dp)) else mA (CT (CT μ c S2) a S) b j) = if a ≤ b ∧ b < a + 43 then (if b - a = k2 ∧ dp ≤ j ∧ j < dp + n then cA S2 k (sp + (j - dp)) else cA S (b - a) j) else mA (CT μ c S2) b j
  rw [rc_A hd h]
  by_cases hb : a ≤ b ∧ b < a + 43
  · rw [if_pos hb]
    have e : mA (CT (CT μ c S2) a S) b j = cA S (b - a) j := if_pos hb
    rw [e]
    by_cases hk : b = a + k2
    · by_cases hj : dp ≤ j ∧ j < dp + n
      · rw [if_pos ⟨hk, hj⟩, if_pos ⟨by omega, hj⟩]
      · rw [if_neg (fun z => hj z.2), if_neg (fun z => hj z.2)]
    · rw [if_neg (fun z => hk z.1), if_neg (fun z => hk (by omega))]
  · rw [if_neg hb, if_neg (fun z => hb (by rw [z.1]; exact in43 h2))]
    exact if_neg hb
theorem cF_fX (S S2 : cT) (k sp k2 dp n : Nat) : cF (fX S S2 k sp k2 dp n) = cF S := rfl
theorem cA_fX (S S2 : cT) (k sp k2 dp n b i : Nat) : cA (fX S S2 k sp k2 dp n) b i = if b = k2 ∧ dp ≤ i ∧ i < dp + n then cA S2 k (sp + (i - dp)) else cA S b i := rfl
/-- what has been copied -/
def CpN (S S2 : cT) (i : Nat) : Prop := ∀ n, n < i → (∀ F, 162 ≤ F → F ≤ 166 → cF S F (5 + 3 * n) = cF S2 F (5 + 3 * n)) ∧ (∀ k, k < 8 → cA S (6 + 3 * n) k = cA S2 (6 + 3 * n) k ∧ cA S (7 + 3 * n) k = cA S2 (7 + 3 * n) k)
def CpC (S S2 : cT) (i : Nat) : Prop := ∀ n, n < i → ∀ F, 64 ≤ F → F ≤ 66 → cF S F (23 + n) = cF S2 F (23 + n)
def CpM (S S2 : cT) (i : Nat) : Prop := ∀ p, p < i → ∀ F, 128 ≤ F → F ≤ 133 → cF S F (27 + cP S p) = cF S2 F (27 + cP S2 p)
theorem Rel_copy {jc jm : Nat} (r : Rel S2 v jc jm) (l : Lim v) (hN : CpN S S2 6) (hC : CpC S S2 4) (hM : CpM S S2 16) (rP : RelP S) (rZ : RelZ S) (h0 : ∀ F, 228 ≤ F → F ≤ 232 → cF S F 0 = cF S2 F 0) (h4 : ∀ F, 256 ≤ F → F ≤ 262 → cF S F 4 = cF S2 F 4) : Rel S v jc jm := by
  obtain ⟨rS, rT, rN, rC, rM, -, -⟩ := r
  have l0 := l.1
  refine ⟨RelS_c rS (fun _ _ _ => rfl) h0, RelT_c rT (fun _ _ _ => rfl) h4, fun n hn => ?_, fun q hq => ?_, fun p hp => ?_, rP, rZ⟩
  · obtain ⟨e5, bi, bk⟩ := rN n hn
    obtain ⟨s8, k8, -⟩ := l.2.1 n hn
    obtain ⟨c1, c2⟩ := hN n (by omega)
    rw [c1 162 (by decide) (by decide), c1 163 (by decide) (by decide), c1 164 (by decide) (by decide), c1 165 (by decide) (by decide), c1 166 (by decide) (by decide)]
    refine ⟨e5, fun k hk => ?_, fun k hk => ?_⟩
    · rw [(c2 k (by omega)).1]
      exact bi k hk
    · rw [(c2 k (by omega)).2]
      exact bk k hk
  · have c1 := hC q (by omega)
    rw [c1 64 (by decide) (by decide), c1 65 (by decide) (by decide), c1 66 (by decide) (by decide)]
    exact rC q hq
  · have c1 := hM p (by omega)
    rw [c1 128 (by decide) (by decide), c1 129 (by decide) (by decide), c1 130 (by decide) (by decide), c1 131 (by decide) (by decide), c1 132 (by decide) (by decide), c1 133 (by decide) (by decide)]
    exact rM p hp
end COPY

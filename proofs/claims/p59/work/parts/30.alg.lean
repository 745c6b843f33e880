/-! THE MEMORY'S ALGEBRA: the reference's state as a row of numbers (VT), a State of the class as a block of 43 cells (CT) -/
theorem mm_ext {μ ν : mmT} (h1 : mK μ = mK ν) (h2 : mN μ = mN ν) (h3 : mI μ = mI ν) (h4 : mR μ = mR ν) (h5 : mA μ = mA ν) (h6 : mB μ = mB ν) (h7 : mL μ = mL ν) (h8 : mD μ = mD ν) : μ = ν := Prod.ext h1 (Prod.ext h2 (Prod.ext h3 (Prod.ext h4 (Prod.ext h5 (Prod.ext h6 (Prod.ext h7 h8))))))
def up (v : Nat → Nat) (k x : Nat) : Nat → Nat := fun j => if j = k then x else v j
theorem up_s (v : Nat → Nat) (k x : Nat) : up v k x k = x := if_pos rfl
theorem up_n {v : Nat → Nat} {k x j : Nat} (h : j ≠ k) : up v k x j = v j := if_neg h
theorem up_a (v : Nat → Nat) (k x j : Nat) : up v k x j = if j = k then x else v j := rfl
section ALGV
variable {μ : mmT} {m b i x F : Nat} {v : Nat → Nat}
def VT (μ : mmT) (m : Nat) (v : Nat → Nat) : mmT := (mK μ, mN μ, mI μ, mR μ, fun b i => if b = m + 1 then nI (v i) else mA μ b i, mB μ, mL μ, mD μ)
theorem VT_A : mA (VT μ m v) (m + 1) i = nI (v i) := if_pos rfl
theorem VT_Ao (h : b ≠ m + 1) : mA (VT μ m v) b i = mA μ b i := if_neg h
theorem VT_sA : sA (VT μ m v) (m + 1) i (nI x) = VT μ m (up v i x) := by
  refine mm_ext rfl rfl rfl rfl ?_ rfl rfl rfl
  funext b j
  show (if b = m + 1 ∧ j = i then nI x else if b = m + 1 then nI (v j) else mA μ b j) = if b = m + 1 then nI (up v i x j) else mA μ b j
  by_cases hb : b = m + 1
  · by_cases hj : j = i
    · rw [if_pos ⟨hb, hj⟩, if_pos hb, hj, up_s]
    · rw [if_neg (fun q => hj q.2), if_pos hb, if_pos hb, up_n hj]
  · rw [if_neg (fun q => hb q.1), if_neg hb, if_neg hb]
theorem VT_w : mK (VT μ m v) = mK μ ∧ mN (VT μ m v) = mN μ ∧ mI (VT μ m v) = mI μ ∧ mR (VT μ m v) = mR μ ∧ mB (VT μ m v) = mB μ ∧ mL (VT μ m v) = mL μ ∧ mD (VT μ m v) = mD μ := ⟨rfl, rfl, rfl, rfl, rfl, rfl, rfl⟩
theorem sA_w {y : Int32} : mK (sA μ b i y) = mK μ ∧ mN (sA μ b i y) = mN μ ∧ mI (sA μ b i y) = mI μ ∧ mR (sA μ b i y) = mR μ ∧ mB (sA μ b i y) = mB μ ∧ mL (sA μ b i y) = mL μ ∧ mD (sA μ b i y) = mD μ := ⟨rfl, rfl, rfl, rfl, rfl, rfl, rfl⟩
theorem sA_wo {y : Int32} {c j : Nat} (h : ¬ (c = b ∧ j = i)) : mA (sA μ b i y) c j = mA μ c j := if_neg h
theorem sA_we {y : Int32} {c j : Nat} (h : c = b ∧ j = i) : mA (sA μ b i y) c j = y := if_pos h
theorem VT_wA {c j : Nat} (h : c = m + 1) : mA (VT μ m v) c j = nI (v j) := if_pos h
theorem VT_sAo {y : Int32} (h : b ≠ m + 1) : sA (VT μ m v) b i y = VT (sA μ b i y) m v := by
  obtain ⟨a1, a2, a3, a4, a6, a7, a8⟩ := VT_w (μ := μ) (m := m) (v := v)
  obtain ⟨b1, b2, b3, b4, b6, b7, b8⟩ := sA_w (μ := μ) (b := b) (i := i) (y := y)
  obtain ⟨c1, c2, c3, c4, c6, c7, c8⟩ := VT_w (μ := sA μ b i y) (m := m) (v := v)
  obtain ⟨d1, d2, d3, d4, d6, d7, d8⟩ := sA_w (μ := VT μ m v) (b := b) (i := i) (y := y)
  have e : mA (sA (VT μ m v) b i y) = mA (VT (sA μ b i y) m v) := by
    funext c j
    by_cases hb : c = m + 1
    · rw [sA_wo (fun q => h (q.1.symm.trans hb)), VT_wA hb, VT_wA hb]
    · rw [VT_Ao hb]
      by_cases hc : c = b ∧ j = i
      · rw [sA_we hc, sA_we hc]
      · rw [sA_wo hc, sA_wo hc, VT_Ao hb]
  exact mm_ext (by rw [d1, a1, c1, b1]) (by rw [d2, a2, c2, b2]) (by rw [d3, a3, c3, b3]) (by rw [d4, a4, c4, b4]) e (by rw [d6, a6, c6, b6]) (by rw [d7, a7, c7, b7]) (by rw [d8, a8, c8, b8])
theorem VT_sI {y : Int32} : sI (VT μ m v) F b y = VT (sI μ F b y) m v := rfl
end ALGV
/-! a State: fields by place, arrays by place, the places of the messages' rows -/
abbrev cT : Type := (Nat → Nat → Int32) × (Nat → Nat → Int32) × (Nat → Nat)
def cF (S : cT) : Nat → Nat → Int32 := S.1
def cA (S : cT) : Nat → Nat → Int32 := S.2.1
def cP (S : cT) : Nat → Nat := S.2.2
def fI (S : cT) (F k : Nat) (y : Int32) : cT := (u2 (cF S) F k y, cA S, cP S)
def fA (S : cT) (k i : Nat) (y : Int32) : cT := (cF S, u2 (cA S) k i y, cP S)
def fP (S : cT) (i q : Nat) : cT := (cF S, cA S, up (cP S) i q)
def fC (S : cT) (k sp k2 dp n : Nat) : cT := (cF S, fun b i => if b = k2 ∧ dp ≤ i ∧ i < dp + n then cA S k (sp + (i - dp)) else cA S b i, cP S)
def CT (μ : mmT) (a : Nat) (S : cT) : mmT := (mK μ, mN μ, fun F b => if a ≤ b ∧ b < a + 43 then cF S F (b - a) else mI μ F b, mR μ, fun b i => if a ≤ b ∧ b < a + 43 then cA S (b - a) i else mA μ b i, fun b i => if b = a + 3 then some (a + (27 + cP S i)) else mB μ b i, mL μ, mD μ)
section ALGC
variable {μ : mmT} {a b i F k k2 q : Nat} {S : cT} {y : Int32}
theorem in43 (h : k < 43) : a ≤ a + k ∧ a + k < a + 43 := ⟨by omega, by omega⟩
theorem CT_I (h : k < 43) : mI (CT μ a S) F (a + k) = cF S F k := by
  show (if a ≤ a + k ∧ a + k < a + 43 then cF S F (a + k - a) else mI μ F (a + k)) = _
  rw [if_pos (in43 h), Nat.add_sub_cancel_left]
theorem CT_I0 : mI (CT μ a S) F a = cF S F 0 := CT_I (k := 0) (by decide)
theorem CT_Io (h : ¬ (a ≤ b ∧ b < a + 43)) : mI (CT μ a S) F b = mI μ F b := if_neg h
theorem CT_A (h : k < 43) : mA (CT μ a S) (a + k) i = cA S k i := by
  show (if a ≤ a + k ∧ a + k < a + 43 then cA S (a + k - a) i else mA μ (a + k) i) = _
  rw [if_pos (in43 h), Nat.add_sub_cancel_left]
theorem CT_Ao (h : ¬ (a ≤ b ∧ b < a + 43)) : mA (CT μ a S) b i = mA μ b i := if_neg h
theorem CT_B : mB (CT μ a S) (a + 3) i = some (a + (27 + cP S i)) := if_pos rfl
theorem CT_Bo (h : b ≠ a + 3) : mB (CT μ a S) b i = mB μ b i := if_neg h
theorem CT_sI (h : k < 43) : sI (CT μ a S) F (a + k) y = CT μ a (fI S F k y) := by
  refine mm_ext rfl rfl ?_ rfl rfl rfl rfl rfl
  funext G b
  show (if G = F ∧ b = a + k then y else if a ≤ b ∧ b < a + 43 then cF S G (b - a) else mI μ G b) = if a ≤ b ∧ b < a + 43 then (if G = F ∧ b - a = k then y else cF S G (b - a)) else mI μ G b
  by_cases hb : a ≤ b ∧ b < a + 43
  · rw [if_pos hb, if_pos hb]
    by_cases hG : G = F
    · by_cases hk : b = a + k
      · rw [if_pos ⟨hG, hk⟩, if_pos ⟨hG, by omega⟩]
      · rw [if_neg (fun z => hk z.2), if_neg (fun z => hk (by omega))]
    · rw [if_neg (fun z => hG z.1), if_neg (fun z => hG z.1)]
  · rw [if_neg hb, if_neg hb, if_neg (fun z => hb (by rw [z.2]; exact in43 h))]
theorem CT_sI0 : sI (CT μ a S) F a y = CT μ a (fI S F 0 y) := CT_sI (k := 0) (by decide)
theorem CT_sIo (h : ¬ (a ≤ b ∧ b < a + 43)) : sI (CT μ a S) F b y = CT (sI μ F b y) a S := by
  refine mm_ext rfl rfl ?_ rfl rfl rfl rfl rfl
  funext G b'
  show (if G = F ∧ b' = b then y else if a ≤ b' ∧ b' < a + 43 then cF S G (b' - a) else mI μ G b') = if a ≤ b' ∧ b' < a + 43 then cF S G (b' - a) else if G = F ∧ b' = b then y else mI μ G b'
  by_cases hb : a ≤ b' ∧ b' < a + 43
  · rw [if_pos hb, if_pos hb, if_neg (fun z : G = F ∧ b' = b => h (z.2 ▸ hb))]
  · rw [if_neg hb, if_neg hb]
theorem CT_sA (h : k < 43) : sA (CT μ a S) (a + k) i y = CT μ a (fA S k i y) := by
  refine mm_ext rfl rfl rfl rfl ?_ rfl rfl rfl
  funext b j
  show (if b = a + k ∧ j = i then y else if a ≤ b ∧ b < a + 43 then cA S (b - a) j else mA μ b j) = if a ≤ b ∧ b < a + 43 then (if b - a = k ∧ j = i then y else cA S (b - a) j) else mA μ b j
  by_cases hb : a ≤ b ∧ b < a + 43
  · rw [if_pos hb, if_pos hb]
    by_cases hk : b = a + k
    · by_cases hj : j = i
      · rw [if_pos ⟨hk, hj⟩, if_pos ⟨by omega, hj⟩]
      · rw [if_neg (fun z => hj z.2), if_neg (fun z => hj z.2)]
    · rw [if_neg (fun z => hk z.1), if_neg (fun z => hk (by omega))]
  · rw [if_neg hb, if_neg hb, if_neg (fun z => hb (by rw [z.1]; exact in43 h))]
theorem CT_sAo (h : ¬ (a ≤ b ∧ b < a + 43)) : sA (CT μ a S) b i y = CT (sA μ b i y) a S := by
  refine mm_ext rfl rfl rfl rfl ?_ rfl rfl rfl
  funext b' j
  show (if b' = b ∧ j = i then y else if a ≤ b' ∧ b' < a + 43 then cA S (b' - a) j else mA μ b' j) = if a ≤ b' ∧ b' < a + 43 then cA S (b' - a) j else if b' = b ∧ j = i then y else mA μ b' j
  by_cases hb : a ≤ b' ∧ b' < a + 43
  · rw [if_pos hb, if_pos hb, if_neg (fun z : b' = b ∧ j = i => h (z.1 ▸ hb))]
  · rw [if_neg hb, if_neg hb]
theorem CT_sB : sB (CT μ a S) (a + 3) i (some (a + (27 + q))) = CT μ a (fP S i q) := by
  refine mm_ext rfl rfl rfl rfl rfl ?_ rfl rfl
  funext b j
  show (if b = a + 3 ∧ j = i then some (a + (27 + q)) else if b = a + 3 then some (a + (27 + cP S j)) else mB μ b j) = if b = a + 3 then some (a + (27 + if j = i then q else cP S j)) else mB μ b j
  by_cases hb : b = a + 3
  · by_cases hj : j = i
    · rw [if_pos ⟨hb, hj⟩, if_pos hb, if_pos hj]
    · rw [if_neg (fun z => hj z.2), if_pos hb, if_pos hb, if_neg hj]
  · rw [if_neg (fun z => hb z.1), if_neg hb, if_neg hb]
theorem CT_sC {sp dp n : Nat} (h : k < 43) (h2 : k2 < 43) : sC (CT μ a S) (a + k) sp (a + k2) dp n = CT μ a (fC S k sp k2 dp n) := by
  refine mm_ext rfl rfl rfl rfl ?_ rfl rfl rfl
  funext b j
  show (if b = a + k2 ∧ dp ≤ j ∧ j < dp + n then mA (CT μ a S) (a + k) (sp + (j - dp)) else mA (CT μ a S) b j) = if a ≤ b ∧ b < a + 43 then (if b - a = k2 ∧ dp ≤ j ∧ j < dp + n then cA S k (sp + (j - dp)) else cA S (b - a) j) else mA μ b j
  by_cases hb : a ≤ b ∧ b < a + 43
  · rw [if_pos hb, CT_A h]
    have e : mA (CT μ a S) b j = cA S (b - a) j := if_pos hb
    rw [e]
    by_cases hk : b = a + k2
    · by_cases hj : dp ≤ j ∧ j < dp + n
      · rw [if_pos ⟨hk, hj⟩, if_pos ⟨by omega, hj⟩]
      · rw [if_neg (fun z => hj z.2), if_neg (fun z => hj z.2)]
    · rw [if_neg (fun z => hk z.1), if_neg (fun z => hk (by omega))]
  · rw [if_neg hb, if_neg (fun z => hb (by rw [z.1]; exact in43 h2))]
    exact if_neg hb
/-- two blocks that don't meet -/
theorem CT_CT {S2 : cT} (h : a + 43 ≤ b ∨ b + 43 ≤ a) : CT (CT μ a S) b S2 = CT (CT μ b S2) a S := by
  refine mm_ext rfl rfl ?_ rfl ?_ ?_ rfl rfl
  · funext F c
    show (if b ≤ c ∧ c < b + 43 then cF S2 F (c - b) else if a ≤ c ∧ c < a + 43 then cF S F (c - a) else mI μ F c) = if a ≤ c ∧ c < a + 43 then cF S F (c - a) else if b ≤ c ∧ c < b + 43 then cF S2 F (c - b) else mI μ F c
    by_cases h1 : a ≤ c ∧ c < a + 43
    · rw [if_pos h1, if_neg (by omega), if_pos h1]
    · rw [if_neg h1, if_neg h1]
  · funext c j
    show (if b ≤ c ∧ c < b + 43 then cA S2 (c - b) j else if a ≤ c ∧ c < a + 43 then cA S (c - a) j else mA μ c j) = if a ≤ c ∧ c < a + 43 then cA S (c - a) j else if b ≤ c ∧ c < b + 43 then cA S2 (c - b) j else mA μ c j
    by_cases h1 : a ≤ c ∧ c < a + 43
    · rw [if_pos h1, if_neg (by omega), if_pos h1]
    · rw [if_neg h1, if_neg h1]
  · funext c j
    show (if c = b + 3 then some (b + (27 + cP S2 j)) else if c = a + 3 then some (a + (27 + cP S j)) else mB μ c j) = if c = a + 3 then some (a + (27 + cP S j)) else if c = b + 3 then some (b + (27 + cP S2 j)) else mB μ c j
    by_cases h1 : c = a + 3
    · rw [if_pos h1, if_neg (by omega), if_pos h1]
    · rw [if_neg h1, if_neg h1]
theorem CT_over {S2 : cT} : CT (CT μ a S) a S2 = CT μ a S2 := by
  refine mm_ext rfl rfl ?_ rfl ?_ ?_ rfl rfl
  · funext F c
    show (if a ≤ c ∧ c < a + 43 then cF S2 F (c - a) else if a ≤ c ∧ c < a + 43 then cF S F (c - a) else mI μ F c) = if a ≤ c ∧ c < a + 43 then cF S2 F (c - a) else mI μ F c
    by_cases h1 : a ≤ c ∧ c < a + 43
    · rw [if_pos h1, if_pos h1]
    · rw [if_neg h1, if_neg h1, if_neg h1]
  · funext c j
    show (if a ≤ c ∧ c < a + 43 then cA S2 (c - a) j else if a ≤ c ∧ c < a + 43 then cA S (c - a) j else mA μ c j) = if a ≤ c ∧ c < a + 43 then cA S2 (c - a) j else mA μ c j
    by_cases h1 : a ≤ c ∧ c < a + 43
    · rw [if_pos h1, if_pos h1]
    · rw [if_neg h1, if_neg h1, if_neg h1]
  · funext c j
    show (if c = a + 3 then some (a + (27 + cP S2 j)) else if c = a + 3 then some (a + (27 + cP S j)) else mB μ c j) = if c = a + 3 then some (a + (27 + cP S2 j)) else mB μ c j
    by_cases h1 : c = a + 3
    · rw [if_pos h1, if_pos h1]
    · rw [if_neg h1, if_neg h1, if_neg h1]
end ALGC
theorem cF_fI (S : cT) (F k : Nat) (y : Int32) (G j : Nat) : cF (fI S F k y) G j = if G = F ∧ j = k then y else cF S G j := rfl
theorem cF_fA (S : cT) (k i : Nat) (y : Int32) : cF (fA S k i y) = cF S := rfl
theorem cF_fP (S : cT) (i q : Nat) : cF (fP S i q) = cF S := rfl
theorem cF_fC (S : cT) (k sp k2 dp n : Nat) : cF (fC S k sp k2 dp n) = cF S := rfl
theorem cA_fI (S : cT) (F k : Nat) (y : Int32) : cA (fI S F k y) = cA S := rfl
theorem cA_fA (S : cT) (k i : Nat) (y : Int32) (c j : Nat) : cA (fA S k i y) c j = if c = k ∧ j = i then y else cA S c j := rfl
theorem cA_fP (S : cT) (i q : Nat) : cA (fP S i q) = cA S := rfl
theorem cA_fC (S : cT) (k sp k2 dp n b i : Nat) : cA (fC S k sp k2 dp n) b i = if b = k2 ∧ dp ≤ i ∧ i < dp + n then cA S k (sp + (i - dp)) else cA S b i := rfl
theorem cP_fI (S : cT) (F k : Nat) (y : Int32) : cP (fI S F k y) = cP S := rfl
theorem cP_fA (S : cT) (k i : Nat) (y : Int32) : cP (fA S k i y) = cP S := rfl
theorem cP_fP (S : cT) (i q j : Nat) : cP (fP S i q) j = if j = i then q else cP S j := rfl
theorem cP_fC (S : cT) (k sp k2 dp n : Nat) : cP (fC S k sp k2 dp n) = cP S := rfl

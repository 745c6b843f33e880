/-! QUOTIENTS OF WHOLE NUMBERS -/
section FLOAT3
variable {G : mgT} {μ : mmT} {E T c d q A B D j n k a b P : Nat} {e r s : Int} {f : FP.Core.Fmt}
theorem near_lo (hB : 0 < B) (h : c * B ≤ A) : c ≤ FP.Core.nearest A B := by
  have h1 : c ≤ A / B := (Nat.le_div_iff_mul_le hB).mpr h
  unfold FP.Core.nearest
  split
  · exact h1
  · split <;> omega
theorem near_hi (hB : 0 < B) (h : A < c * B) : FP.Core.nearest A B ≤ c := by
  have h1 : A / B < c := (Nat.div_lt_iff_lt_mul hB).mpr h
  have h2 : A / B % 2 < 2 := Nat.mod_lt _ (by decide)
  unfold FP.Core.nearest
  split
  · omega
  · split <;> omega
theorem rrN (ht : f.tails = 2 ^ P) (hp : 2 ^ f.p = 2 ^ (P + 1)) (hA : A ≠ 0) (hq : FP.Core.quantum f A D e = r) (hm : r + 1 ≤ f.qmax) (hD : 0 < FP.Core.unitsDen D e r) (h1 : 2 ^ P * FP.Core.unitsDen D e r ≤ FP.Core.unitsNum A e r) (h2 : FP.Core.unitsNum A e r < 2 ^ (P + 1) * FP.Core.unitsDen D e r) :
    ∃ c s, FP.Core.roundRatio f false A D e = .fin false c s ∧ 2 ^ P ≤ c ∧ c < 2 ^ (P + 1) ∧ r ≤ s ∧ s ≤ r + 1 := by
  have n1 := near_lo hD h1
  have n2 := near_hi hD h2
  have hP : 2 ^ P < 2 ^ (P + 1) := Nat.pow_lt_pow_right (by decide) (by omega)
  unfold FP.Core.roundRatio FP.Core.roundAt FP.Core.settle FP.Core.bound
  rw [if_neg hA, hq, hp, ht]
  generalize FP.Core.nearest (FP.Core.unitsNum A e r) (FP.Core.unitsDen D e r) = m at *
  by_cases hc : m < 2 ^ (P + 1)
  · rw [if_pos hc, if_pos (by omega)]
    exact ⟨m, r, rfl, n1, hc, by omega, by omega⟩
  · rw [if_neg hc, if_pos hm]
    exact ⟨2 ^ P, r + 1, rfl, Nat.le_refl _, hP, by omega, by omega⟩
/-- a whole number -/
theorem int_f (ht : f.tails = 2 ^ P) (hp : 2 ^ f.p = 2 ^ (P + 1)) (hp2 : (f.p : Int) = P + 1) (hq : f.qmin ≤ -(P : Int)) (hm : (31 : Int) - P ≤ f.qmax) (h0 : 0 < n) (hn : n < 2 ^ 31) :
    ∃ c s, FP.Core.round f (FP.Core.ofInt (n : Int)) = .fin false c s ∧ 2 ^ P ≤ c ∧ c < 2 ^ (P + 1) ∧ -(P : Int) ≤ s ∧ s ≤ 31 - P := by
  have l1 := Nat.log2_self_le (show n ≠ 0 by omega)
  have l2 : n < 2 ^ (n.log2 + 1) := (Nat.log2_lt (by omega)).mp (Nat.lt_succ_self _)
  have l3 : n.log2 < 31 := (Nat.log2_lt (by omega)).mpr hn
  have ho : FP.Core.round f (FP.Core.ofInt (n : Int)) = FP.Core.roundRatio f false n 1 0 := by
    unfold FP.Core.ofInt
    rw [decide_eq_false (show ¬ (n : Int) < 0 by omega), Int.natAbs_natCast]
    rfl
  have ld : FP.Core.leading n 1 = (n.log2 : Int) := by
    have := lead1 (c := n) (j := 0) (P := n.log2) l1 l2
    rw [Nat.pow_zero, Nat.mul_one, Nat.add_zero] at this
    exact this
  have qn : FP.Core.quantum f n 1 0 = (n.log2 : Int) - P := by
    unfold FP.Core.quantum
    rw [ld, hp2]
    omega
  rw [ho]
  generalize hL : n.log2 = L at *
  have u1 : FP.Core.unitsNum n 0 ((L : Int) - P) = n * 2 ^ (P - L) := by
    unfold FP.Core.unitsNum
    rw [show (0 - ((L : Int) - P)).toNat = P - L by omega]
  have u2 : FP.Core.unitsDen 1 0 ((L : Int) - P) = 2 ^ (L - P) := by
    unfold FP.Core.unitsDen
    rw [show ((L : Int) - P - 0).toNat = L - P by omega, Nat.one_mul]
  obtain ⟨c, s, e1, e2, e3, e4, e5⟩ := rrN (A := n) (D := 1) (e := 0) (r := (L : Int) - P) ht hp (by omega) qn (by omega) (by rw [u2]; exact Nat.two_pow_pos _) (by
    rw [u1, u2]
    by_cases c : L ≤ P
    · rw [show L - P = 0 by omega, Nat.pow_zero, Nat.mul_one]
      calc 2 ^ P = 2 ^ L * 2 ^ (P - L) := by rw [← Nat.pow_add, show L + (P - L) = P by omega]
        _ ≤ n * 2 ^ (P - L) := Nat.mul_le_mul_right _ l1
    · rw [show P - L = 0 by omega, Nat.pow_zero, Nat.mul_one, ← Nat.pow_add, show P + (L - P) = L by omega]
      exact l1) (by
    rw [u1, u2]
    by_cases c : L ≤ P
    · rw [show L - P = 0 by omega, Nat.pow_zero, Nat.mul_one]
      calc n * 2 ^ (P - L) < 2 ^ (L + 1) * 2 ^ (P - L) := Nat.mul_lt_mul_of_pos_right l2 (Nat.two_pow_pos _)
        _ = 2 ^ (P + 1) := by rw [← Nat.pow_add, show L + 1 + (P - L) = P + 1 by omega]
    · rw [show P - L = 0 by omega, Nat.pow_zero, Nat.mul_one, ← Nat.pow_add, show P + 1 + (L - P) = L + 1 by omega]
      exact l2)
  exact ⟨c, s, e1, e2, e3, by omega, by omega⟩
/-- a quotient of two such -/
theorem dv (ht : f.tails = 2 ^ P) (hp : 2 ^ f.p = 2 ^ (P + 1)) (hp2 : (f.p : Int) = P + 1) (hq : f.qmin ≤ -(P : Int) - 32) (hm : (32 : Int) - P ≤ f.qmax) (c1 : 2 ^ P ≤ c) (c2 : c < 2 ^ (P + 1)) (d1 : 2 ^ P ≤ d) (d2 : d < 2 ^ (P + 1)) (r1 : -(P : Int) ≤ r) (r2 : r ≤ 31 - P) (s1 : -(P : Int) ≤ s) (s2 : s ≤ 31 - P) :
    ∃ m t, FP.Core.quotient f (.fin false c r) (.fin false d s) = .fin false m t ∧ 2 ^ P ≤ m ∧ m < 2 ^ (P + 1) ∧ -(P : Int) - 32 ≤ t ∧ t ≤ 32 - P := by
  have hP : 0 < 2 ^ P := Nat.two_pow_pos _
  have hd0 : d ≠ 0 := by omega
  have ho : FP.Core.quotient f (.fin false c r) (.fin false d s) = FP.Core.roundRatio f false c d (r - s) := quoN hd0
  rw [ho]
  have lc : c.log2 = P := by
    rw [Nat.log2_eq_iff (by omega)]
    exact ⟨c1, c2⟩
  have ldd : d.log2 = P := by
    rw [Nat.log2_eq_iff (by omega)]
    exact ⟨d1, d2⟩
  have p1 : 2 ^ (P + 1) = 2 * 2 ^ P := by rw [Nat.pow_succ]; omega
  by_cases h : d ≤ c
  · have ld : FP.Core.leading c d = 0 := by
      unfold FP.Core.leading
      rw [lc, ldd, Int.sub_self]
      show (if d * 2 ^ 0 ≤ c * 2 ^ 0 then (0 : Int) else 0 - 1) = 0
      rw [if_pos (by omega)]
    have qn : FP.Core.quantum f c d (r - s) = r - s - P := by
      unfold FP.Core.quantum
      rw [ld, hp2]
      omega
    have u1 : FP.Core.unitsNum c (r - s) (r - s - P) = c * 2 ^ P := by
      unfold FP.Core.unitsNum
      rw [show (r - s - (r - s - (P : Int))).toNat = P by omega]
    have u2 : FP.Core.unitsDen d (r - s) (r - s - P) = d := by
      unfold FP.Core.unitsDen
      rw [show (r - s - (P : Int) - (r - s)).toNat = 0 by omega, Nat.pow_zero, Nat.mul_one]
    obtain ⟨m, t, e1, e2, e3, e4, e5⟩ := rrN (A := c) (D := d) (e := r - s) (r := r - s - P) ht hp (by omega) qn (by omega) (by rw [u2]; omega) (by
      rw [u1, u2, Nat.mul_comm]
      exact Nat.mul_le_mul_right _ h) (by
      rw [u1, u2, p1]
      calc c * 2 ^ P < 2 * 2 ^ P * 2 ^ P := Nat.mul_lt_mul_of_pos_right (by omega) hP
        _ ≤ 2 * 2 ^ P * d := Nat.mul_le_mul_left _ d1)
    exact ⟨m, t, e1, e2, e3, by omega, by omega⟩
  · have ld : FP.Core.leading c d = -1 := by
      unfold FP.Core.leading
      rw [lc, ldd, Int.sub_self]
      show (if d * 2 ^ 0 ≤ c * 2 ^ 0 then (0 : Int) else 0 - 1) = -1
      rw [if_neg (by omega)]
      rfl
    have qn : FP.Core.quantum f c d (r - s) = r - s - P - 1 := by
      unfold FP.Core.quantum
      rw [ld, hp2]
      omega
    have u1 : FP.Core.unitsNum c (r - s) (r - s - P - 1) = c * 2 ^ (P + 1) := by
      unfold FP.Core.unitsNum
      rw [show (r - s - (r - s - (P : Int) - 1)).toNat = P + 1 by omega]
    have u2 : FP.Core.unitsDen d (r - s) (r - s - P - 1) = d := by
      unfold FP.Core.unitsDen
      rw [show (r - s - (P : Int) - 1 - (r - s)).toNat = 0 by omega, Nat.pow_zero, Nat.mul_one]
    obtain ⟨m, t, e1, e2, e3, e4, e5⟩ := rrN (A := c) (D := d) (e := r - s) (r := r - s - P - 1) ht hp (by omega) qn (by omega) (by rw [u2]; omega) (by
      rw [u1, u2, p1]
      calc 2 ^ P * d ≤ 2 ^ P * (2 * 2 ^ P) := Nat.mul_le_mul_left _ (by omega)
        _ ≤ c * (2 * 2 ^ P) := Nat.mul_le_mul_right _ c1) (by
      rw [u1, u2, Nat.mul_comm]
      exact Nat.mul_lt_mul_of_pos_left (by omega) (Nat.two_pow_pos _))
    exact ⟨m, t, e1, e2, e3, by omega, by omega⟩
theorem mk_of {m : Nat} {t : Int} (h1 : 2 ^ 52 ≤ m) (h2 : m < 2 ^ 53) (t1 : -84 ≤ t) (t2 : t ≤ -20) : ∃ E T, UInt64.ofNat (FP.Core.encode FP.Core.b64 (.fin false m t)) = mk E T ∧ 900 ≤ E ∧ E ≤ 1060 ∧ T < 2 ^ 52 ∧ m = 2 ^ 52 + T ∧ t = (E : Int) - 1075 := by
  refine ⟨(t + 1075).toNat, m - 2 ^ 52, ?_, by omega, by omega, by omega, by omega, by omega⟩
  have := enc64 (E := (t + 1075).toNat) (T := m - 2 ^ 52) (by omega) (by omega)
  rw [show 2 ^ 52 + (m - 2 ^ 52) = m by omega, show (((t + 1075).toNat : Nat) : Int) - 1075 = t by omega] at this
  exact this
theorem mf_of {m : Nat} {t : Int} (h1 : 2 ^ 23 ≤ m) (h2 : m < 2 ^ 24) (t1 : -55 ≤ t) (t2 : t ≤ 9) : ∃ E T, UInt32.ofNat (FP.Core.encode FP.Core.b32 (.fin false m t)) = mf E T ∧ 90 ≤ E ∧ E ≤ 160 ∧ T < 2 ^ 23 ∧ m = 2 ^ 23 + T ∧ t = (E : Int) - 150 := by
  refine ⟨(t + 150).toNat, m - 2 ^ 23, ?_, by omega, by omega, by omega, by omega, by omega⟩
  have := enc32 (E := (t + 150).toNat) (T := m - 2 ^ 23) (by omega) (by omega)
  rw [show 2 ^ 23 + (m - 2 ^ 23) = m by omega, show (((t + 150).toNat : Nat) : Int) - 150 = t by omega] at this
  exact this
theorem i2d_p (h0 : 0 < n) (hn : n < 2 ^ 31) : ∃ c s, FP.Core.decode FP.Core.b64 (FP.i2d (nI n)).toNat = .fin false c s ∧ 2 ^ 52 ≤ c ∧ c < 2 ^ 53 ∧ -((52 : Nat) : Int) ≤ s ∧ s ≤ 31 - ((52 : Nat) : Int) := by
  obtain ⟨c, s, e1, e2, e3, e4, e5⟩ := int_f (f := FP.Core.b64) (P := 52) t64 P64 (by rw [p64]; rfl) (by rw [q64]; decide) (by rw [m64]; decide) h0 hn
  obtain ⟨E, T, f1, f2, f3, f4, f5, f6⟩ := mk_of (t := s) e2 e3 (by omega) (by omega)
  have e : FP.i2d (nI n) = mk E T := by
    show UInt64.ofNat (FP.Core.encode FP.Core.b64 (FP.Core.round FP.Core.b64 (FP.Core.ofInt (nI n).toInt))) = _
    rw [nI_toInt hn, e1]
    exact f1
  rw [e, dec64 (by omega) (by omega) f4]
  exact ⟨_, _, rfl, by omega, by omega, by omega, by omega⟩
theorem i2f_p (h0 : 0 < n) (hn : n < 2 ^ 31) : ∃ c s, FP.Core.decode FP.Core.b32 (FP.i2f (nI n)).toNat = .fin false c s ∧ 2 ^ 23 ≤ c ∧ c < 2 ^ 24 ∧ -((23 : Nat) : Int) ≤ s ∧ s ≤ 31 - ((23 : Nat) : Int) := by
  obtain ⟨c, s, e1, e2, e3, e4, e5⟩ := int_f (f := FP.Core.b32) (P := 23) t32 P32 (by rw [p32]; rfl) (by rw [q32]; decide) (by rw [m32]; decide) h0 hn
  obtain ⟨E, T, f1, f2, f3, f4, f5, f6⟩ := mf_of (t := s) e2 e3 (by omega) (by omega)
  have e : FP.i2f (nI n) = mf E T := by
    show UInt32.ofNat (FP.Core.encode FP.Core.b32 (FP.Core.round FP.Core.b32 (FP.Core.ofInt (nI n).toInt))) = _
    rw [nI_toInt hn, e1]
    exact f1
  rw [e, dec32 (by omega) (by omega) f4]
  exact ⟨_, _, rfl, by omega, by omega, by omega, by omega⟩
theorem ddiv_p (ha : 0 < a) (ha2 : a < 2 ^ 31) (hb : 0 < b) (hb2 : b < 2 ^ 31) : ∃ E T, FP.ddiv (FP.i2d (nI a)) (FP.i2d (nI b)) = mk E T ∧ 1 ≤ E ∧ E ≤ 2046 ∧ T < 2 ^ 52 := by
  obtain ⟨c, r, e1, e2, e3, e4, e5⟩ := i2d_p ha ha2
  obtain ⟨d, s, g1, g2, g3, g4, g5⟩ := i2d_p hb hb2
  obtain ⟨m, t, k1, k2, k3, k4, k5⟩ := dv (f := FP.Core.b64) (P := 52) t64 P64 (by rw [p64]; rfl) (by rw [q64]; decide) (by rw [m64]; decide) e2 e3 g2 g3 e4 e5 g4 g5
  obtain ⟨E, T, f1, f2, f3, f4, -, -⟩ := mk_of (t := t) k2 k3 (by omega) (by omega)
  refine ⟨E, T, ?_, by omega, by omega, f4⟩
  show UInt64.ofNat (FP.Core.encode FP.Core.b64 (FP.Core.quotient FP.Core.b64 (FP.Core.decode FP.Core.b64 (FP.i2d (nI a)).toNat) (FP.Core.decode FP.Core.b64 (FP.i2d (nI b)).toNat))) = _
  rw [e1, g1, k1]
  exact f1
theorem fdiv_p (ha : 0 < a) (ha2 : a < 2 ^ 31) (hb : 0 < b) (hb2 : b < 2 ^ 31) : ∃ E T, FP.fdiv (FP.i2f (nI a)) (FP.i2f (nI b)) = mf E T ∧ 1 ≤ E ∧ E ≤ 254 ∧ T < 2 ^ 23 := by
  obtain ⟨c, r, e1, e2, e3, e4, e5⟩ := i2f_p ha ha2
  obtain ⟨d, s, g1, g2, g3, g4, g5⟩ := i2f_p hb hb2
  obtain ⟨m, t, k1, k2, k3, k4, k5⟩ := dv (f := FP.Core.b32) (P := 23) t32 P32 (by rw [p32]; rfl) (by rw [q32]; decide) (by rw [m32]; decide) e2 e3 g2 g3 e4 e5 g4 g5
  obtain ⟨E, T, f1, f2, f3, f4, -, -⟩ := mf_of (t := t) k2 k3 (by omega) (by omega)
  refine ⟨E, T, ?_, by omega, by omega, f4⟩
  show UInt32.ofNat (FP.Core.encode FP.Core.b32 (FP.Core.quotient FP.Core.b32 (FP.Core.decode FP.Core.b32 (FP.i2f (nI a)).toNat) (FP.Core.decode FP.Core.b32 (FP.i2f (nI b)).toNat))) = _
  rw [e1, g1, k1]
  exact f1
theorem z2d : FP.Core.decode FP.Core.b64 (FP.i2d (nI 0)).toNat = .fin false 0 (-1074) := by decide +kernel
theorem z2f : FP.Core.decode FP.Core.b32 (FP.i2f (nI 0)).toNat = .fin false 0 (-149) := by decide +kernel
theorem ddiv_0 (hb : 0 < b) (hb2 : b < 2 ^ 31) : FP.ddiv (FP.i2d (nI 0)) (FP.i2d (nI b)) = 0 := by
  obtain ⟨d, s, g1, g2, g3, g4, g5⟩ := i2d_p hb hb2
  show UInt64.ofNat (FP.Core.encode FP.Core.b64 (FP.Core.quotient FP.Core.b64 (FP.Core.decode FP.Core.b64 (FP.i2d (nI 0)).toNat) (FP.Core.decode FP.Core.b64 (FP.i2d (nI b)).toNat))) = _
  rw [z2d, g1]
  have ho : FP.Core.quotient FP.Core.b64 (.fin false 0 (-1074)) (.fin false d s) = .fin false 0 (-1074) := (quoN (show d ≠ 0 by omega)).trans (if_pos rfl)
  rw [ho]
  exact enc64_0
theorem fdiv_0 (hb : 0 < b) (hb2 : b < 2 ^ 31) : FP.fdiv (FP.i2f (nI 0)) (FP.i2f (nI b)) = 0 := by
  obtain ⟨d, s, g1, g2, g3, g4, g5⟩ := i2f_p hb hb2
  show UInt32.ofNat (FP.Core.encode FP.Core.b32 (FP.Core.quotient FP.Core.b32 (FP.Core.decode FP.Core.b32 (FP.i2f (nI 0)).toNat) (FP.Core.decode FP.Core.b32 (FP.i2f (nI b)).toNat))) = _
  rw [z2f, g1]
  have ho : FP.Core.quotient FP.Core.b32 (.fin false 0 (-149)) (.fin false d s) = .fin false 0 (-149) := (quoN (show d ≠ 0 by omega)).trans (if_pos rfl)
  rw [ho]
  exact enc32_0
theorem f2d_p (h1 : 1 ≤ E) (h2 : E ≤ 254) (hT : T < 2 ^ 23) : FP.f2d (mf E T) = mk (E + 896) (T * 2 ^ 29) := by
  have hn : FP.Core.fIsNaN (mf E T) = false := by
    show decide (FP.Core.decode FP.Core.b32 (mf E T).toNat = .nan) = false
    rw [dec32 h1 h2 hT]
    rfl
  unfold FP.f2d
  rw [hn]
  show UInt64.ofNat (FP.Core.encode FP.Core.b64 (FP.Core.round FP.Core.b64 (FP.Core.decode FP.Core.b32 (mf E T).toNat))) = _
  rw [dec32 h1 h2 hT]
  show UInt64.ofNat (FP.Core.encode FP.Core.b64 (FP.Core.roundRatio FP.Core.b64 false (2 ^ 23 + T) 1 ((E : Int) - 150))) = _
  rw [rr64u (j := 29) (by omega) (by omega) (by omega) (by omega), show (2 ^ 23 + T) * 2 ^ 29 = 2 ^ 52 + T * 2 ^ 29 by omega, show ((E : Int) - 150 - ((29 : Nat) : Int)) = ((E + 896 : Nat) : Int) - 1075 by omega]
  exact enc64 (by omega) (by omega)
theorem f2d_0 : FP.f2d 0 = 0 := by decide +kernel
theorem dcmp_00 : FP.dcmp 0 0 = some .eq := by decide +kernel
theorem fcmp_00 : FP.fcmp 0 0 = some .eq := by decide +kernel
theorem fcmp_s (h1 : 1 ≤ E) (h2 : E ≤ 254) (hT : T < 2 ^ 23) : FP.fcmp (mf E T) (mf E T) = some .eq := by
  show FP.Core.order (FP.Core.decode FP.Core.b32 (mf E T).toNat) (FP.Core.decode FP.Core.b32 (mf E T).toNat) = _
  rw [dec32 h1 h2 hT]
  show some (compare _ _) = _
  rw [cmp_rf]
theorem n32_0 : vf_n32 0 := by
  unfold vf_n32
  decide
end FLOAT3

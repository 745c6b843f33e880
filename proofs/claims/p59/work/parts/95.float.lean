/-! DOUBLES AND FLOATS AS PAIRS (biased exponent, fraction) -/
def mk (E T : Nat) : UInt64 := UInt64.ofNat (E * 2 ^ 52 + T)
def mf (E T : Nat) : UInt32 := UInt32.ofNat (E * 2 ^ 23 + T)
section FLOAT
variable {E T c q A D j n k : Nat} {e r : Int}
theorem mk_n (hE : E < 2048) (hT : T < 2 ^ 52) : (mk E T).toNat = E * 2 ^ 52 + T := by
  unfold mk
  rw [UInt64.toNat_ofNat', Nat.mod_eq_of_lt (by omega)]
theorem mf_n (hE : E < 256) (hT : T < 2 ^ 23) : (mf E T).toNat = E * 2 ^ 23 + T := by
  unfold mf
  rw [UInt32.toNat_ofNat', Nat.mod_eq_of_lt (by omega)]
theorem t64 : FP.Core.b64.tails = 2 ^ 52 := by decide
theorem e64 : FP.Core.b64.exps = 2048 := by decide
theorem q64 : FP.Core.b64.qmin = -1074 := by decide
theorem m64 : FP.Core.b64.qmax = 971 := by decide
theorem p64 : (FP.Core.b64.p : Int) = 53 := by decide
theorem P64 : 2 ^ FP.Core.b64.p = 2 ^ 53 := by decide
theorem t32 : FP.Core.b32.tails = 2 ^ 23 := by decide
theorem e32 : FP.Core.b32.exps = 256 := by decide
theorem q32 : FP.Core.b32.qmin = -149 := by decide
theorem m32 : FP.Core.b32.qmax = 104 := by decide
theorem p32 : (FP.Core.b32.p : Int) = 24 := by decide
theorem P32 : 2 ^ FP.Core.b32.p = 2 ^ 24 := by decide
theorem dec64 (h1 : 1 ≤ E) (h2 : E ≤ 2046) (hT : T < 2 ^ 52) : FP.Core.decode FP.Core.b64 (mk E T).toNat = .fin false (2 ^ 52 + T) ((E : Int) - 1075) := by
  rw [mk_n (by omega) hT]
  unfold FP.Core.decode FP.Core.fieldE FP.Core.fieldT FP.Core.fieldS
  rw [t64, e64, q64]
  have d1 : (E * 2 ^ 52 + T) / 2 ^ 52 = E := by omega
  have d2 : (E * 2 ^ 52 + T) % 2 ^ 52 = T := by omega
  rw [d1, d2, Nat.mod_eq_of_lt (show E < 2048 by omega), if_neg (by omega), if_neg (by omega), show E / 2048 = 0 by omega]
  have e3 : (-1074 : Int) + ((E : Int) - 1) = (E : Int) - 1075 := by omega
  rw [e3]
  rfl
theorem dec32 (h1 : 1 ≤ E) (h2 : E ≤ 254) (hT : T < 2 ^ 23) : FP.Core.decode FP.Core.b32 (mf E T).toNat = .fin false (2 ^ 23 + T) ((E : Int) - 150) := by
  rw [mf_n (by omega) hT]
  unfold FP.Core.decode FP.Core.fieldE FP.Core.fieldT FP.Core.fieldS
  rw [t32, e32, q32]
  have d1 : (E * 2 ^ 23 + T) / 2 ^ 23 = E := by omega
  have d2 : (E * 2 ^ 23 + T) % 2 ^ 23 = T := by omega
  rw [d1, d2, Nat.mod_eq_of_lt (show E < 256 by omega), if_neg (by omega), if_neg (by omega), show E / 256 = 0 by omega]
  have e3 : (-149 : Int) + ((E : Int) - 1) = (E : Int) - 150 := by omega
  rw [e3]
  rfl
theorem enc64 (h1 : 1 ≤ E) (hT : T < 2 ^ 52) : UInt64.ofNat (FP.Core.encode FP.Core.b64 (.fin false (2 ^ 52 + T) ((E : Int) - 1075))) = mk E T := by
  unfold FP.Core.encode FP.Core.assemble mk
  show UInt64.ofNat (if 2 ^ 52 + T < FP.Core.b64.tails then _ else _) = _
  rw [t64, e64, q64, if_neg (by omega)]
  have e1 : ((E : Int) - 1075 - -1074).toNat + 1 = E := by omega
  have e2 : (Bool.toNat false * 2048 + (((E : Int) - 1075 - -1074).toNat + 1)) * 2 ^ 52 + (2 ^ 52 + T - 2 ^ 52) = E * 2 ^ 52 + T := by
    rw [e1, show Bool.toNat false = 0 from rfl]
    omega
  rw [e2]
theorem enc32 (h1 : 1 ≤ E) (hT : T < 2 ^ 23) : UInt32.ofNat (FP.Core.encode FP.Core.b32 (.fin false (2 ^ 23 + T) ((E : Int) - 150))) = mf E T := by
  unfold FP.Core.encode FP.Core.assemble mf
  show UInt32.ofNat (if 2 ^ 23 + T < FP.Core.b32.tails then _ else _) = _
  rw [t32, e32, q32, if_neg (by omega)]
  have e1 : ((E : Int) - 150 - -149).toNat + 1 = E := by omega
  have e2 : (Bool.toNat false * 256 + (((E : Int) - 150 - -149).toNat + 1)) * 2 ^ 23 + (2 ^ 23 + T - 2 ^ 23) = E * 2 ^ 23 + T := by
    rw [e1, show Bool.toNat false = 0 from rfl]
    omega
  rw [e2]
theorem enc64_0 : UInt64.ofNat (FP.Core.encode FP.Core.b64 (.fin false 0 (-1074))) = 0 := by decide +kernel
theorem enc32_0 : UInt32.ofNat (FP.Core.encode FP.Core.b32 (.fin false 0 (-149))) = 0 := by decide +kernel
/-- the leading digit of a number: c 2^j over 1, c of 53 digits -/
theorem lead1 {P : Nat} (h1 : 2 ^ P ≤ c) (h2 : c < 2 ^ (P + 1)) : FP.Core.leading (c * 2 ^ j) 1 = ((P + j : Nat) : Int) := by
  have h0 : 0 < 2 ^ P := Nat.two_pow_pos _
  have hj : 0 < 2 ^ j := Nat.two_pow_pos _
  have l : (c * 2 ^ j).log2 = P + j := by
    rw [Nat.log2_eq_iff (by have := Nat.mul_pos (show 0 < c by omega) hj; omega)]
    refine ⟨?_, ?_⟩
    · rw [Nat.pow_add]
      exact Nat.mul_le_mul_right _ h1
    · rw [show P + j + 1 = (P + 1) + j by omega, Nat.pow_add]
      exact Nat.mul_lt_mul_of_pos_right h2 hj
  have e : 1 * 2 ^ ((P + j : Nat) : Int).toNat ≤ c * 2 ^ j * 2 ^ (-((P + j : Nat) : Int)).toNat := by
    rw [Int.toNat_natCast, show (-((P + j : Nat) : Int)).toNat = 0 by omega, Nat.pow_zero, Nat.mul_one, Nat.one_mul, Nat.pow_add]
    exact Nat.mul_le_mul_right _ h1
  unfold FP.Core.leading
  rw [l, show Nat.log2 1 = 0 from rfl, show (((P + j : Nat) : Int) - ((0 : Nat) : Int)) = ((P + j : Nat) : Int) by omega, if_pos e]
theorem near_ex (h : 0 < D) : FP.Core.nearest (c * D) D = c := by
  unfold FP.Core.nearest
  rw [Nat.mul_mod_left, if_pos (by omega), Nat.mul_div_cancel _ h]
/-- exact: A 2^e with A = c 2^j -/
theorem rr64 (h1 : 2 ^ 52 ≤ c) (h2 : c < 2 ^ 53) (hq1 : -1074 ≤ e + j) (hq2 : e + j ≤ 971) : FP.Core.roundRatio FP.Core.b64 false (c * 2 ^ j) 1 e = .fin false c (e + j) := by
  have hj : 0 < 2 ^ j := Nat.two_pow_pos _
  have hc0 : ¬ c * 2 ^ j = 0 := by
    have := Nat.mul_pos (show 0 < c by omega) hj
    omega
  have qn : FP.Core.quantum FP.Core.b64 (c * 2 ^ j) 1 e = e + j := by
    unfold FP.Core.quantum
    rw [lead1 (P := 52) h1 h2, q64, p64]
    omega
  unfold FP.Core.roundRatio FP.Core.roundAt FP.Core.unitsNum FP.Core.unitsDen
  rw [if_neg hc0, qn, show (e - (e + j)).toNat = 0 by omega, show (e + (j : Int) - e).toNat = j by omega, Nat.pow_zero, Nat.mul_one, Nat.one_mul, near_ex hj]
  unfold FP.Core.settle FP.Core.bound
  rw [P64, m64, if_pos h2, if_pos hq2]
/-- exact: A 2^e with A 2^j = c -/
theorem rr64u (h1 : 2 ^ 52 ≤ A * 2 ^ j) (h2 : A * 2 ^ j < 2 ^ 53) (hq1 : -1074 ≤ e - j) (hq2 : e - j ≤ 971) : FP.Core.roundRatio FP.Core.b64 false A 1 e = .fin false (A * 2 ^ j) (e - j) := by
  have hj : 0 < 2 ^ j := Nat.two_pow_pos _
  have hA : A ≠ 0 := fun h => by
    rw [h, Nat.zero_mul] at h1
    have : 0 < 2 ^ 52 := Nat.two_pow_pos _
    omega
  have j52 : j ≤ 52 := by
    by_cases h : j ≤ 52
    · exact h
    · exfalso
      have : 2 ^ 53 ≤ 2 ^ j := Nat.pow_le_pow_right (by decide) (by omega)
      have : 2 ^ j ≤ A * 2 ^ j := Nat.le_mul_of_pos_left _ (by omega)
      omega
  have l : A.log2 = 52 - j := by
    rw [Nat.log2_eq_iff hA]
    refine ⟨Nat.le_of_mul_le_mul_right (c := 2 ^ j) ?_ hj, Nat.lt_of_mul_lt_mul_right (a := 2 ^ j) ?_⟩
    · rw [← Nat.pow_add, Nat.sub_add_cancel j52]
      exact h1
    · rw [← Nat.pow_add, show 52 - j + 1 + j = 53 by omega]
      exact h2
  have ld : FP.Core.leading A 1 = ((52 - j : Nat) : Int) := by
    have e : 1 * 2 ^ ((52 - j : Nat) : Int).toNat ≤ A * 2 ^ (-((52 - j : Nat) : Int)).toNat := by
      rw [Int.toNat_natCast, show (-((52 - j : Nat) : Int)).toNat = 0 by omega, Nat.pow_zero, Nat.mul_one, Nat.one_mul, ← l]
      exact Nat.log2_self_le hA
    unfold FP.Core.leading
    rw [l, show Nat.log2 1 = 0 from rfl, show (((52 - j : Nat) : Int) - ((0 : Nat) : Int)) = ((52 - j : Nat) : Int) by omega, if_pos e]
  have qn : FP.Core.quantum FP.Core.b64 A 1 e = e - j := by
    unfold FP.Core.quantum
    rw [ld, q64, p64]
    omega
  unfold FP.Core.roundRatio FP.Core.roundAt FP.Core.unitsNum FP.Core.unitsDen
  rw [if_neg hA, qn, show (e - (e - (j : Int))).toNat = j by omega, show (e - (j : Int) - e).toNat = 0 by omega, Nat.pow_zero, Nat.mul_one]
  have := near_ex (c := A * 2 ^ j) (D := 1) (by decide)
  rw [Nat.mul_one] at this
  rw [this]
  unfold FP.Core.settle FP.Core.bound
  rw [P64, m64, if_pos h2, if_pos hq2]
theorem dec2 : FP.Core.decode FP.Core.b64 (4611686018427387904 : UInt64).toNat = .fin false (2 ^ 52) (-51) := by decide +kernel
theorem dec1 : FP.Core.decode FP.Core.b64 (FP.dconst1).toNat = .fin false (2 ^ 52) (-52) := by decide +kernel
theorem dec0 : FP.Core.decode FP.Core.b64 (FP.dconst0).toNat = .fin false 0 (-1074) := by decide +kernel
theorem quoN {f : FP.Core.Fmt} {c d : Nat} {q r : Int} (h : d ≠ 0) : FP.Core.quotient f (.fin false c q) (.fin false d r) = FP.Core.roundRatio f false c d (q - r) := by
  show (if d = 0 then (if c = 0 then FP.Core.Datum.nan else .inf (false != false)) else FP.Core.roundRatio f (false != false) c d (q - r)) = _
  rw [if_neg h]
  rfl
theorem mul2 (h1 : 1 ≤ E) (h2 : E ≤ 2045) (hT : T < 2 ^ 52) : FP.dmul (mk E T) (4611686018427387904 : UInt64) = mk (E + 1) T := by
  show UInt64.ofNat (FP.Core.encode FP.Core.b64 (FP.Core.round FP.Core.b64 (FP.Core.exactProduct (FP.Core.decode FP.Core.b64 (mk E T).toNat) (FP.Core.decode FP.Core.b64 (4611686018427387904 : UInt64).toNat)))) = _
  rw [dec64 h1 (by omega) hT, dec2]
  show UInt64.ofNat (FP.Core.encode FP.Core.b64 (FP.Core.roundRatio FP.Core.b64 false ((2 ^ 52 + T) * 2 ^ 52) 1 ((E : Int) - 1075 + -51))) = _
  rw [rr64 (by omega) (by omega) (by omega) (by omega), show ((E : Int) - 1075 + -51 + ((52 : Nat) : Int)) = ((E + 1 : Nat) : Int) - 1075 by omega]
  exact enc64 (by omega) hT
theorem div2 (h1 : 2 ≤ E) (h2 : E ≤ 2046) (hT : T < 2 ^ 52) : FP.ddiv (mk E T) (4611686018427387904 : UInt64) = mk (E - 1) T := by
  show UInt64.ofNat (FP.Core.encode FP.Core.b64 (FP.Core.quotient FP.Core.b64 (FP.Core.decode FP.Core.b64 (mk E T).toNat) (FP.Core.decode FP.Core.b64 (4611686018427387904 : UInt64).toNat))) = _
  rw [dec64 (by omega) h2 hT, dec2]
  have hq0 : FP.Core.quotient FP.Core.b64 (.fin false (2 ^ 52 + T) ((E : Int) - 1075)) (.fin false (2 ^ 52) (-51)) = FP.Core.roundRatio FP.Core.b64 false (2 ^ 52 + T) (2 ^ 52) ((E : Int) - 1075 - -51) := quoN (by decide)
  rw [hq0]
  have key : FP.Core.roundRatio FP.Core.b64 false (2 ^ 52 + T) (2 ^ 52) ((E : Int) - 1075 - -51) = .fin false (2 ^ 52 + T) (((E - 1 : Nat) : Int) - 1075) := by
    have l1 : (2 ^ 52 + T).log2 = 52 := by
      rw [Nat.log2_eq_iff (by omega)]
      omega
    have ld : FP.Core.leading (2 ^ 52 + T) (2 ^ 52) = 0 := by
      unfold FP.Core.leading
      rw [l1, Nat.log2_two_pow]
      show (if 2 ^ 52 * 2 ^ 0 ≤ (2 ^ 52 + T) * 2 ^ 0 then (0 : Int) else 0 - 1) = 0
      rw [if_pos (by omega)]
    have qn : FP.Core.quantum FP.Core.b64 (2 ^ 52 + T) (2 ^ 52) ((E : Int) - 1075 - -51) = ((E - 1 : Nat) : Int) - 1075 := by
      unfold FP.Core.quantum
      rw [ld, q64, p64]
      omega
    unfold FP.Core.roundRatio FP.Core.roundAt FP.Core.unitsNum FP.Core.unitsDen
    rw [if_neg (by omega), qn, show (((E : Int) - 1075 - -51) - (((E - 1 : Nat) : Int) - 1075)).toNat = 52 by omega, show ((((E - 1 : Nat) : Int) - 1075) - ((E : Int) - 1075 - -51)).toNat = 0 by omega, Nat.pow_zero, Nat.mul_one, near_ex (by decide)]
    unfold FP.Core.settle FP.Core.bound
    rw [P64, m64, if_pos (by omega), if_pos (by omega)]
  rw [key]
  exact enc64 (by omega) hT
theorem ord64 (h1 : 1 ≤ E) (h2 : E ≤ 2046) (hT : T < 2 ^ 52) {y : UInt64} {d : Nat} {s : Int} (hy : FP.Core.decode FP.Core.b64 y.toNat = .fin false d s) : FP.dcmp (mk E T) y = some (compare (((2 ^ 52 + T) * 2 ^ ((E : Int) - 1075 - min ((E : Int) - 1075) s).toNat : Nat) : Int) ((d * 2 ^ (s - min ((E : Int) - 1075) s).toNat : Nat) : Int)) := by
  show FP.Core.order (FP.Core.decode FP.Core.b64 (mk E T).toNat) (FP.Core.decode FP.Core.b64 y.toNat) = _
  rw [dec64 h1 h2 hT, hy]
  rfl
theorem cmpI (a b : Int) : compare a b = if a < b then .lt else if a = b then .eq else .gt := rfl
theorem cmp_lt {a b : Nat} (h : a < b) : compare (a : Int) (b : Int) = .lt := by
  rw [cmpI, if_pos (by omega)]
theorem cmp_ge {a b : Nat} (h : b ≤ a) : compare (a : Int) (b : Int) = .eq ∨ compare (a : Int) (b : Int) = .gt := by
  rw [cmpI, if_neg (by omega)]
  rcases Nat.lt_or_ge b a with q | q
  · exact Or.inr (if_neg (by omega))
  · exact Or.inl (if_pos (by omega))
theorem cmp_gt0 {a : Nat} (h : 0 < a) : compare (a : Int) ((0 : Nat) : Int) = .gt := by
  rw [cmpI, if_neg (by omega), if_neg (by omega)]
theorem cmp_rf {a : Int} : compare a a = .eq := by
  rw [cmpI, if_neg (by omega), if_pos rfl]
/-- against 2^(K - 1023) -/
theorem cmp_K {y : UInt64} {K : Nat} (h1 : 1 ≤ E) (h2 : E ≤ 2046) (hT : T < 2 ^ 52) (hy : FP.Core.decode FP.Core.b64 y.toNat = .fin false (2 ^ 52) ((K : Int) - 1075)) :
    (K ≤ E → FP.dcmp (mk E T) y = some .eq ∨ FP.dcmp (mk E T) y = some .gt) ∧ (E < K → FP.dcmp (mk E T) y = some .lt) := by
  rw [ord64 h1 h2 hT hy]
  refine ⟨fun h => ?_, fun h => ?_⟩
  · have m : min ((E : Int) - 1075) ((K : Int) - 1075) = (K : Int) - 1075 := by omega
    rw [m, show ((E : Int) - 1075 - ((K : Int) - 1075)).toNat = E - K by omega, Int.sub_self, Int.toNat_zero, Nat.pow_zero, Nat.mul_one]
    have hp : 0 < 2 ^ (E - K) := Nat.two_pow_pos _
    have : 2 ^ 52 ≤ (2 ^ 52 + T) * 2 ^ (E - K) := Nat.le_trans (by omega) (Nat.le_mul_of_pos_right (2 ^ 52 + T) hp)
    rcases cmp_ge this with q | q
    · exact Or.inl (by rw [q])
    · exact Or.inr (by rw [q])
  · have m : min ((E : Int) - 1075) ((K : Int) - 1075) = (E : Int) - 1075 := by omega
    rw [m, Int.sub_self, Int.toNat_zero, Nat.pow_zero, Nat.mul_one, show ((K : Int) - 1075 - ((E : Int) - 1075)).toNat = (K - E - 1) + 1 by omega]
    have hp : 0 < 2 ^ (K - E - 1) := Nat.two_pow_pos _
    have : 2 ^ 52 + T < 2 ^ 52 * 2 ^ (K - E - 1 + 1) := by
      rw [Nat.pow_succ]
      have : 2 ^ 52 * 2 ≤ 2 ^ 52 * (2 ^ (K - E - 1) * 2) := Nat.mul_le_mul_left _ (by omega)
      omega
    rw [cmp_lt this]
theorem cmp_2 (h1 : 1 ≤ E) (h2 : E ≤ 2046) (hT : T < 2 ^ 52) : (1024 ≤ E → ¬ Op.cmpValue (FP.dcmp (mk E T) (4611686018427387904 : UInt64)) .l < 0) ∧ (E < 1024 → Op.cmpValue (FP.dcmp (mk E T) (4611686018427387904 : UInt64)) .l < 0) := by
  obtain ⟨a, b⟩ := cmp_K (K := 1024) h1 h2 hT dec2
  refine ⟨fun h => ?_, fun h => ?_⟩
  · rcases a h with q | q
    · rw [q]; decide
    · rw [q]; decide
  · rw [b h]; decide
theorem cmp_1 (h1 : 1 ≤ E) (h2 : E ≤ 2046) (hT : T < 2 ^ 52) : (1023 ≤ E → 0 ≤ Op.cmpValue (FP.dcmp (mk E T) FP.dconst1) .g) ∧ (E < 1023 → ¬ 0 ≤ Op.cmpValue (FP.dcmp (mk E T) FP.dconst1) .g) := by
  obtain ⟨a, b⟩ := cmp_K (K := 1023) h1 h2 hT dec1
  refine ⟨fun h => ?_, fun h => ?_⟩
  · rcases a h with q | q
    · rw [q]; decide
    · rw [q]; decide
  · rw [b h]; decide
theorem cmp_0 (h1 : 1 ≤ E) (h2 : E ≤ 2046) (hT : T < 2 ^ 52) : 0 < Op.cmpValue (FP.dcmp (mk E T) FP.dconst0) .g := by
  rw [ord64 h1 h2 hT dec0]
  have m : min ((E : Int) - 1075) (-1074) = -1074 := by omega
  rw [m, Nat.zero_mul]
  have hp : 0 < 2 ^ ((E : Int) - 1075 - -1074).toNat := Nat.two_pow_pos _
  have : 0 < (2 ^ 52 + T) * 2 ^ ((E : Int) - 1075 - -1074).toNat := Nat.mul_pos (by omega) hp
  rw [cmp_gt0 this]
  decide
theorem cmp_s (h1 : 1 ≤ E) (h2 : E ≤ 2046) (hT : T < 2 ^ 52) : FP.dcmp (mk E T) (mk E T) = some .eq := by
  rw [ord64 h1 h2 hT (dec64 h1 h2 hT)]
  rw [cmp_rf]
theorem n64 (h : E ≤ 2046) (hT : T < 2 ^ 52) : vf_n64 (mk E T) := by
  unfold vf_n64
  rw [UInt64.le_iff_toNat_le, UInt64.toNat_and, mk_n (by omega) hT]
  have e1 : (0x7fffffffffffffff : UInt64).toNat = 2 ^ 63 - 1 := by decide
  have e2 : (0x7ff0000000000000 : UInt64).toNat = 2047 * 2 ^ 52 := by decide
  rw [e1, e2, Nat.and_two_pow_sub_one_eq_mod, Nat.mod_eq_of_lt (by omega)]
  omega
theorem n32 (h : E ≤ 254) (hT : T < 2 ^ 23) : vf_n32 (mf E T) := by
  unfold vf_n32
  rw [UInt32.le_iff_toNat_le, UInt32.toNat_and, mf_n (by omega) hT]
  have e1 : (0x7fffffff : UInt32).toNat = 2 ^ 31 - 1 := by decide
  have e2 : (0x7f800000 : UInt32).toNat = 255 * 2 ^ 23 := by decide
  rw [e1, e2, Nat.and_two_pow_sub_one_eq_mod, Nat.mod_eq_of_lt (by omega)]
  omega
end FLOAT

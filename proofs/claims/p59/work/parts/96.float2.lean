/-! THE BITS FOUND BY HALVING AND DOUBLING -/
section FLOAT2
variable {G : mgT} {μ : mmT} {E T c q A D j n k a b fb : Nat} {e r : Int}
theorem sub1 (hT : T < 2 ^ 52) : FP.dsub (mk 1023 T) FP.dconst1 = UInt64.ofNat (FP.Core.encode FP.Core.b64 (FP.Core.roundRatio FP.Core.b64 false T 1 (-52))) := by
  show UInt64.ofNat (FP.Core.encode FP.Core.b64 (FP.Core.round FP.Core.b64 (FP.Core.exactSum (FP.Core.decode FP.Core.b64 (mk 1023 T).toNat) (FP.Core.negate (FP.Core.decode FP.Core.b64 (FP.dconst1).toNat))))) = _
  rw [dec64 (by omega) (by omega) hT, dec1]
  have hV : FP.Core.sumUnits false (2 ^ 52 + T) (((1023 : Nat) : Int) - 1075) true (2 ^ 52) (-52) (min (((1023 : Nat) : Int) - 1075) (-52)) = (T : Int) := by
    unfold FP.Core.sumUnits FP.Core.signed FP.Core.inUnits
    rw [show (((1023 : Nat) : Int) - 1075) = -52 by decide, show min (-52 : Int) (-52) = -52 by decide, Int.sub_self, Int.toNat_zero, Nat.pow_zero, Nat.mul_one, Nat.mul_one, if_neg (by decide), if_pos rfl]
    omega
  have hs : FP.Core.exactSum (.fin false (2 ^ 52 + T) (((1023 : Nat) : Int) - 1075)) (FP.Core.negate (.fin false (2 ^ 52) (-52))) = .fin false T (-52) := by
    show FP.Core.Datum.fin (FP.Core.sumSign false true (FP.Core.sumUnits false (2 ^ 52 + T) (((1023 : Nat) : Int) - 1075) true (2 ^ 52) (-52) (min (((1023 : Nat) : Int) - 1075) (-52)))) (FP.Core.sumUnits false (2 ^ 52 + T) (((1023 : Nat) : Int) - 1075) true (2 ^ 52) (-52) (min (((1023 : Nat) : Int) - 1075) (-52))).natAbs (min (((1023 : Nat) : Int) - 1075) (-52)) = _
    rw [hV]
    have h1 : FP.Core.sumSign false true (T : Int) = false := by
      unfold FP.Core.sumSign
      split
      · rfl
      · exact decide_eq_false (by omega)
    rw [h1, Int.natAbs_natCast]
    rfl
  rw [hs]
  rfl
theorem sub1_0 : FP.dsub (mk 1023 0) FP.dconst1 = 0 := by decide +kernel
/-- T 2^j has 53 digits -/
theorem norm53 (h0 : 0 < T) (hT : T < 2 ^ 52) : ∃ j, 1 ≤ j ∧ j ≤ 52 ∧ 2 ^ 52 ≤ T * 2 ^ j ∧ T * 2 ^ j < 2 ^ 53 := by
  have l : T.log2 < 52 := (Nat.log2_lt (by omega)).mpr hT
  have hs := Nat.log2_self_le (show T ≠ 0 by omega)
  have hu : T < 2 ^ (T.log2 + 1) := (Nat.log2_lt (by omega)).mp (Nat.lt_succ_self _)
  have hj : 0 < 2 ^ (52 - T.log2) := Nat.two_pow_pos _
  refine ⟨52 - T.log2, by omega, by omega, ?_, ?_⟩
  · calc 2 ^ 52 = 2 ^ T.log2 * 2 ^ (52 - T.log2) := by rw [← Nat.pow_add, show T.log2 + (52 - T.log2) = 52 by omega]
      _ ≤ T * 2 ^ (52 - T.log2) := Nat.mul_le_mul_right _ hs
  · calc T * 2 ^ (52 - T.log2) < 2 ^ (T.log2 + 1) * 2 ^ (52 - T.log2) := Nat.mul_lt_mul_of_pos_right hu hj
      _ = 2 ^ 53 := by rw [← Nat.pow_add, show T.log2 + 1 + (52 - T.log2) = 53 by omega]
theorem sub1_p (hT : T < 2 ^ 52) (j1 : 1 ≤ j) (j2 : j ≤ 52) (h1 : 2 ^ 52 ≤ T * 2 ^ j) (h2 : T * 2 ^ j < 2 ^ 53) : FP.dsub (mk 1023 T) FP.dconst1 = mk (1023 - j) (T * 2 ^ j - 2 ^ 52) := by
  rw [sub1 hT, rr64u h1 h2 (by omega) (by omega)]
  have e1 : (-52 : Int) - (j : Int) = ((1023 - j : Nat) : Int) - 1075 := by omega
  have e2 : T * 2 ^ j = 2 ^ 52 + (T * 2 ^ j - 2 ^ 52) := by omega
  have := enc64 (E := 1023 - j) (T := T * 2 ^ j - 2 ^ 52) (by omega) (by omega)
  rw [← e2, ← e1] at this
  exact this
/-- times 2^K -/
theorem mulK {y : UInt64} {K : Nat} (hy : FP.Core.decode FP.Core.b64 y.toNat = .fin false (2 ^ 52) ((K : Int) - 52)) (h1 : 1 ≤ E) (h2 : E + K ≤ 2046) (hT : T < 2 ^ 52) : FP.dmul (mk E T) y = mk (E + K) T := by
  show UInt64.ofNat (FP.Core.encode FP.Core.b64 (FP.Core.round FP.Core.b64 (FP.Core.exactProduct (FP.Core.decode FP.Core.b64 (mk E T).toNat) (FP.Core.decode FP.Core.b64 y.toNat)))) = _
  rw [dec64 h1 (by omega) hT, hy]
  show UInt64.ofNat (FP.Core.encode FP.Core.b64 (FP.Core.roundRatio FP.Core.b64 false ((2 ^ 52 + T) * 2 ^ 52) 1 ((E : Int) - 1075 + ((K : Int) - 52)))) = _
  rw [rr64 (by omega) (by omega) (by omega) (by omega), show ((E : Int) - 1075 + ((K : Int) - 52) + ((52 : Nat) : Int)) = ((E + K : Nat) : Int) - 1075 by omega]
  exact enc64 (by omega) hT
theorem d2l_p (h1 : 1 ≤ E) (h2 : E ≤ 1075) (hT : T < 2 ^ 52) : FP.d2l (mk E T) = lN ((2 ^ 52 + T) / 2 ^ (1075 - E)) := by
  show FP.Core.toL (FP.Core.decode FP.Core.b64 (mk E T).toNat) = _
  rw [dec64 h1 (by omega) hT]
  have ht : FP.Core.truncate false (2 ^ 52 + T) ((E : Int) - 1075) = (((2 ^ 52 + T) / 2 ^ (1075 - E) : Nat) : Int) := by
    unfold FP.Core.truncate FP.Core.signed
    rw [if_neg (by decide), show ((E : Int) - 1075).toNat = 0 by omega, show (-((E : Int) - 1075)).toNat = 1075 - E by omega, Nat.pow_zero, Nat.mul_one]
  have hb : (2 ^ 52 + T) / 2 ^ (1075 - E) < 2 ^ 53 := Nat.lt_of_le_of_lt (Nat.div_le_self _ _) (by omega)
  unfold FP.Core.toL FP.Core.toInt
  show Int64.ofInt (max (-2 ^ 63) (min (2 ^ 63 - 1) (FP.Core.truncate false (2 ^ 52 + T) ((E : Int) - 1075)))) = _
  rw [ht]
  generalize (2 ^ 52 + T) / 2 ^ (1075 - E) = d at *
  have e : max (-2 ^ 63 : Int) (min (2 ^ 63 - 1) (d : Int)) = (d : Int) := by omega
  rw [e]
  rfl
theorem K52 : FP.l2d ((lN 1) <<< ((nI 52).toInt64 &&& 63)) = (0x4330000000000000 : UInt64) := by decide +kernel
theorem K23 : FP.l2d ((lN 1) <<< ((nI 23).toInt64 &&& 63)) = (0x4160000000000000 : UInt64) := by decide +kernel
theorem dK52 : FP.Core.decode FP.Core.b64 (0x4330000000000000 : UInt64).toNat = .fin false (2 ^ 52) (((52 : Nat) : Int) - 52) := by decide +kernel
theorem dK23 : FP.Core.decode FP.Core.b64 (0x4160000000000000 : UInt64).toNat = .fin false (2 ^ 52) (((23 : Nat) : Int) - 52) := by decide +kernel
theorem n64_0 : vf_n64 0 := by
  unfold vf_n64
  decide
/-- the fraction, as a long -/
theorem frac {y : UInt64} (hf : fb ≤ 52) (hy : FP.Core.decode FP.Core.b64 y.toNat = .fin false (2 ^ 52) ((fb : Int) - 52)) (hz : FP.dmul 0 y = 0) (hd : FP.d2l 0 = lN 0) (hT : T < 2 ^ 52) :
    vf_n64 (FP.dsub (mk 1023 T) FP.dconst1) ∧ vf_n64 (FP.dmul (FP.dsub (mk 1023 T) FP.dconst1) y) ∧ FP.d2l (FP.dmul (FP.dsub (mk 1023 T) FP.dconst1) y) = lN (T / 2 ^ (52 - fb)) := by
  by_cases h0 : T = 0
  · subst h0
    rw [sub1_0, hz, hd, Nat.zero_div]
    exact ⟨n64_0, n64_0, rfl⟩
  · obtain ⟨j, j1, j2, h1, h2⟩ := norm53 (T := T) (by omega) hT
    rw [sub1_p hT j1 j2 h1 h2, mulK hy (by omega) (by omega) (by omega), d2l_p (by omega) (by omega) (by omega)]
    refine ⟨n64 (by omega) (by omega), n64 (by omega) (by omega), ?_⟩
    have hj : 0 < 2 ^ j := Nat.two_pow_pos _
    rw [show 2 ^ 52 + (T * 2 ^ j - 2 ^ 52) = T * 2 ^ j by omega, show 1075 - (1023 - j + fb) = (52 - fb) + j by omega, Nat.pow_add, Nat.mul_div_mul_right _ _ hj]
theorem nI_ab : nI a - nI b + (-1) = nI a - nI (b + 1) := by
  rw [← nI_1, Int32.sub_eq_add_neg, Int32.sub_eq_add_neg, Int32.neg_add, Int32.sub_eq_add_neg, Int32.add_assoc]
theorem t_bits {Q : Int64 → Prop} {y : UInt64} {B : Nat} (hf : fb ≤ 52) (hK : FP.l2d ((lN 1) <<< ((nI fb).toInt64 &&& 63)) = y) (hy : FP.Core.decode FP.Core.b64 y.toNat = .fin false (2 ^ 52) ((fb : Int) - 52)) (hz : FP.dmul 0 y = 0) (hd : FP.d2l 0 = lN 0)
    (h1 : 1 ≤ E) (h2 : E ≤ 2046) (hT : T < 2 ^ 52) (hB : 1023 ≤ E + B) (h : Q (((nI (E + B - 1023)).toInt64 <<< ((nI fb).toInt64 &&& 63)) + lN (T / 2 ^ (52 - fb)))) : w_X10_bitsOf G μ (mk E T) (nI fb) (nI B) Q := by
  obtain ⟨f1, f2, f3⟩ := frac hf hy hz hd hT
  have l86 : ∀ a b, a + 1023 = E + b → w_X10_bitsOf_b86 G μ Q (nI fb) (nI B) (mk 1023 T) (nI a - nI b) := by
    intro a b hab
    unfold w_X10_bitsOf_b86
    rw [hK, f3]
    refine ⟨f1, f2, ?_⟩
    have e : nI a - nI b + nI B = nI (E + B - 1023) := by
      rw [Int32.sub_eq_add_neg, Int32.add_assoc, Int32.add_comm (-nI b), ← Int32.add_assoc, nI_add, ← Int32.sub_eq_add_neg, pk_sub (by omega), show a + B - b = E + B - 1023 by omega]
    rw [e]
    exact h
  have l51 : ∀ E2 a, 1 ≤ E2 → E2 ≤ 1023 → a + E2 = E → w_X10_bitsOf_b51 G μ Q (nI fb) (nI B) (mk E2 T) (nI a) := by
    intro E2 a e1 e2 ha
    unfold w_X10_bitsOf_b51
    refine (lpE (W := fun n i => w_X10_litsOf_l54 G μ Q n (nI fb) (nI B) (mk (E2 + i) T) (nI a - nI i) (nI i)) (N := 1023 - E2) ?_ (Nat.zero_le _)).imp fun n hn => ?_
    · intro n i hi ih
      show w_X10_bitsOf_b54 G μ Q _ (nI fb) (nI B) (mk (E2 + i) T) (nI a - nI i) (nI i)
      unfold w_X10_bitsOf_b54
      refine pk_le 1100 i (fun c => by omega) (fun _ => ⟨fun c => ?_, fun c => ?_⟩)
      · by_cases y : E2 + i < 1023
        · exact absurd c ((cmp_1 (by omega) (by omega) hT).2 y)
        · have : E2 + i = 1023 := by omega
          rw [this]
          exact l86 a i (by omega)
      · have y : E2 + i < 1023 := by
          by_cases y : E2 + i < 1023
          · exact y
          · exact absurd ((cmp_1 (by omega) (by omega) hT).1 (by omega)) c
        rw [mul2 (by omega) (by omega) hT, nI_ab, nI_add]
        exact ⟨n64 (by omega) hT, ih (by omega)⟩
    · have e : nI a - nI 0 = nI a := pk_sub (Nat.zero_le _)
      rw [e] at hn
      exact hn
  unfold w_X10_bitsOf
  refine ⟨fun _ => ?_, fun c => absurd (cmp_0 h1 h2 hT) c⟩
  refine (lpE (W := fun n i => w_X10_litsOf_l17 G μ Q n (nI fb) (nI B) (mk (E - i) T) (nI i) (nI i)) (N := E - 1023) ?_ (Nat.zero_le _)).imp fun n hn => hn
  intro n i hi ih
  show w_X10_bitsOf_b17 G μ Q _ (nI fb) (nI B) (mk (E - i) T) (nI i) (nI i)
  unfold w_X10_bitsOf_b17
  refine pk_le 1100 i (fun c => by omega) (fun _ => ⟨fun c => ?_, fun c => ?_⟩)
  · by_cases y : 1024 ≤ E - i
    · exact absurd c ((cmp_2 (by omega) (by omega) hT).1 y)
    · exact l51 (E - i) i (by omega) (by omega) (by omega)
  · have y : 1024 ≤ E - i := by
      by_cases y : 1024 ≤ E - i
      · exact y
      · exact absurd ((cmp_2 (by omega) (by omega) hT).2 (by omega)) c
    rw [div2 (by omega) (by omega) hT, nI_add, show E - i - 1 = E - (i + 1) by omega]
    exact ⟨n64 (by omega) hT, ih (by omega)⟩
theorem z52 : FP.dmul 0 (0x4330000000000000 : UInt64) = 0 := by decide +kernel
theorem z23 : FP.dmul 0 (0x4160000000000000 : UInt64) = 0 := by decide +kernel
theorem zl : FP.d2l 0 = lN 0 := by decide +kernel
theorem sh52 : ∀ E : Fin 2048, (nI E.val).toInt64 <<< ((nI 52).toInt64 &&& 63) = lN (E.val * 2 ^ 52) := by decide +kernel
theorem sh23 : ∀ E : Fin 256, (nI E.val).toInt64 <<< ((nI 23).toInt64 &&& 63) = lN (E.val * 2 ^ 23) := by decide +kernel
theorem t_bits0 {Q : Int64 → Prop} {x y : Int32} (h : Q (lN 0)) : w_X10_bitsOf G μ 0 x y Q := by
  unfold w_X10_bitsOf
  exact ⟨fun c => absurd c (by decide +kernel), fun _ => h⟩
/-- the double's own bits -/
theorem t_bits64 {Q : Int64 → Prop} (h1 : 1 ≤ E) (h2 : E ≤ 2046) (hT : T < 2 ^ 52) (h : Q (mk E T).toInt64) : w_X10_bitsOf G μ (mk E T) (nI 52) (nI 1023) Q := by
  refine t_bits (by decide) K52 dK52 z52 zl h1 h2 hT (by omega) ?_
  have e : (nI (E + 1023 - 1023)).toInt64 <<< ((nI 52).toInt64 &&& 63) = lN (E * 2 ^ 52) := by
    rw [Nat.add_sub_cancel]
    exact sh52 ⟨E, by omega⟩
  rw [e, lN_add, show T / 2 ^ (52 - 52) = T by omega]
  exact h
/-- the float's own bits, found of the double that it is -/
theorem t_bits32 {Q : Int64 → Prop} (h1 : 1 ≤ E) (h2 : E ≤ 254) (hT : T < 2 ^ 23) (h : Q (lN (E * 2 ^ 23 + T))) : w_X10_bitsOf G μ (mk (E + 896) (T * 2 ^ 29)) (nI 23) (nI 127) Q := by
  refine t_bits (by decide) K23 dK23 z23 zl (by omega) (by omega) (by omega) (by omega) ?_
  have e : (nI (E + 896 + 127 - 1023)).toInt64 <<< ((nI 23).toInt64 &&& 63) = lN (E * 2 ^ 23) := by
    rw [show E + 896 + 127 - 1023 = E by omega]
    exact sh23 ⟨E, by omega⟩
  rw [e, lN_add, show T * 2 ^ 29 / 2 ^ (52 - 23) = T by omega]
  exact h
end FLOAT2

section COPY2
variable {G : mgT} {μ : mmT} {a c : Nat} {S S2 S' : cT} {v w : Nat → Nat} {p n i d e t b x y k F : Nat}
theorem t_nestCopy {Q : mmT → Prop} (hsA : SS μ a) (hsC : SS μ c) (hd : a + 43 ≤ c ∨ c + 43 ≤ a) (hi : i < 6) (hN : CpN S S2 i) (h : ∀ S', CpN S' S2 (i + 1) → cP S' = cP S → (∀ F k, ¬ (162 ≤ F ∧ F ≤ 166) → cF S' F k = cF S F k) → Q (CT (CT μ c S2) a S')) : w_X6_copyFrom G (CT (CT μ c S2) a S) (a + (5 + 3 * i)) (some (c + (5 + 3 * i))) Q := by
  have hA : SS (CT μ c S2) a := SS_in hsA hd
  obtain ⟨-, s1, s2, s3, s4, s5, s6, s7⟩ := hsC.2.2.2.2.1 i hi
  have c0 : (nI 0).toNatClampNeg = 0 := cl (by decide)
  have c8 : (nI 8).toNatClampNeg = 8 := cl (by decide)
  unfold w_X6_copyFrom
  refine ⟨_, rfl, s1, hA.nk hi, _, s2, s4, _, hA.nin hi, hA.nik hi, ?_, ?_, ?_⟩
  · show _ ≤ mN μ (c + (6 + 3 * i))
    rw [s6, c0, c8]
    decide
  · rw [hA.nin8 hi, c0, c8]
    decide
  · rw [c0, c8, CT_sX hd (by omega) (by omega)]
    refine ⟨_, s3, s5, _, hA.nkey hi, hA.nkk hi, ?_, ?_, ?_⟩
    · show _ ≤ mN μ (c + (7 + 3 * i))
      rw [s7]
      decide
    · rw [hA.nkn8 hi]
      decide
    · rw [CT_sX hd (by omega) (by omega), rc_I hd (by omega), CT_sI (by omega), rc_I hd (by omega), CT_sI (by omega), rc_I hd (by omega), CT_sI (by omega), rc_I hd (by omega), CT_sI (by omega), rc_I hd (by omega), CT_sI (by omega)]
      refine h _ (fun n hn => ?_) rfl (fun F k z => by rw [fI_o (by omega), fI_o (by omega), fI_o (by omega), fI_o (by omega), fI_o (by omega), cF_fX, cF_fX])
      by_cases q : n = i
      · subst q
        refine ⟨fun F f1 f2 => ?_, fun k hk => ⟨?_, ?_⟩⟩
        · have : F = 162 ∨ F = 163 ∨ F = 164 ∨ F = 165 ∨ F = 166 := by omega
          rcases this with rfl | rfl | rfl | rfl | rfl
          · rw [fI_o (by omega), fI_o (by omega), fI_o (by omega), fI_o (by omega), fI_s]
          · rw [fI_o (by omega), fI_o (by omega), fI_o (by omega), fI_s]
          · rw [fI_o (by omega), fI_o (by omega), fI_s]
          · rw [fI_o (by omega), fI_s]
          · rw [fI_s]
        · rw [cA_fI, cA_fI, cA_fI, cA_fI, cA_fI, cA_fX, if_neg (by omega), cA_fX, if_pos (by omega), Nat.zero_add, Nat.sub_zero]
        · rw [cA_fI, cA_fI, cA_fI, cA_fI, cA_fI, cA_fX, if_pos (by omega), Nat.zero_add, Nat.sub_zero]
      · obtain ⟨g1, g2⟩ := hN n (by omega)
        refine ⟨fun F f1 f2 => ?_, fun k hk => ⟨?_, ?_⟩⟩
        · rw [fI_o (by omega), fI_o (by omega), fI_o (by omega), fI_o (by omega), fI_o (by omega), cF_fX, cF_fX]
          exact g1 F f1 f2
        · rw [cA_fI, cA_fI, cA_fI, cA_fI, cA_fI, cA_fX, if_neg (by omega), cA_fX, if_neg (by omega)]
          exact (g2 k hk).1
        · rw [cA_fI, cA_fI, cA_fI, cA_fI, cA_fI, cA_fX, if_neg (by omega), cA_fX, if_neg (by omega)]
          exact (g2 k hk).2
theorem t_crowCopy {Q : mmT → Prop} (hsA : SS μ a) (hsC : SS μ c) (hd : a + 43 ≤ c ∨ c + 43 ≤ a) (hi : i < 4) (hC : CpC S S2 i) (hz : cF S2 64 (23 + i) = 0 ∨ cF S2 64 (23 + i) = 1) (h : ∀ S', CpC S' S2 (i + 1) → cP S' = cP S → cA S' = cA S → (∀ F k, ¬ (64 ≤ F ∧ F ≤ 66) → cF S' F k = cF S F k) → (∀ k, cF S' 64 k = cF S 64 k ∨ cF S' 64 k = 0 ∨ cF S' 64 k = 1) → Q (CT (CT μ c S2) a S')) : w_X2_copyFrom G (CT (CT μ c S2) a S) (a + (23 + i)) (some (c + (23 + i))) Q := by
  have hA : SS (CT μ c S2) a := SS_in hsA hd
  have s1 := (hsC.2.2.2.2.2.1 i hi).2
  unfold w_X2_copyFrom
  refine ⟨_, rfl, s1, hA.ck hi, ?_, ?_⟩
  · rw [rc_I hd (by omega)]
    exact hz
  · rw [rc_I hd (by omega), CT_sI (by omega), rc_I hd (by omega), CT_sI (by omega), rc_I hd (by omega), CT_sI (by omega)]
    refine h _ (fun n hn F f1 f2 => ?_) rfl rfl (fun F k z => by rw [fI_o (by omega), fI_o (by omega), fI_o (by omega)]) (fun k => ?_)
    · by_cases q : n = i
      · subst q
        have : F = 64 ∨ F = 65 ∨ F = 66 := by omega
        rcases this with rfl | rfl | rfl
        · rw [fI_o (by omega), fI_o (by omega), fI_s]
        · rw [fI_o (by omega), fI_s]
        · rw [fI_s]
      · rw [fI_o (by omega), fI_o (by omega), fI_o (by omega)]
        exact hC n (by omega) F f1 f2
    · rw [fI_o (by omega), fI_o (by omega), cF_fI]
      split
      · exact Or.inr hz
      · exact Or.inl rfl
theorem t_messageCopy {Q : mmT → Prop} (hsA : SS μ a) (hsC : SS μ c) (hd : a + 43 ≤ c ∨ c + 43 ≤ a) (hi : i < 16) (rP : RelP S) (hp2 : cP S2 i < 16) (hM : CpM S S2 i) (hz : isCh (cF S2 132 (27 + cP S2 i))) (h : ∀ S', CpM S' S2 (i + 1) → cP S' = cP S → cA S' = cA S → (∀ F k, ¬ (128 ≤ F ∧ F ≤ 133) → cF S' F k = cF S F k) → (∀ k, cF S' 132 k = cF S 132 k ∨ isCh (cF S' 132 k)) → Q (CT (CT μ c S2) a S')) : w_X5_copyFrom G (CT (CT μ c S2) a S) (a + (27 + cP S i)) (some (c + (27 + cP S2 i))) Q := by
  have hA : SS (CT μ c S2) a := SS_in hsA hd
  have pc := (rP i hi).1
  have s1 := hsC.2.2.2.2.2.2 (cP S2 i) hp2
  unfold w_X5_copyFrom
  refine ⟨_, rfl, s1, hA.mk pc, ?_⟩
  rw [rc_I hd (by omega), CT_sI (by omega), rc_I hd (by omega), CT_sI (by omega), rc_I hd (by omega), CT_sI (by omega), rc_I hd (by omega), CT_sI (by omega), rc_I hd (by omega)]
  refine ⟨hz, ?_⟩
  rw [CT_sI (by omega), rc_I hd (by omega), CT_sI (by omega)]
  refine h _ (fun n hn F f1 f2 => ?_) rfl rfl (fun F k z => by rw [fI_o (by omega), fI_o (by omega), fI_o (by omega), fI_o (by omega), fI_o (by omega), fI_o (by omega)]) (fun k => ?_)
  · have eP : ∀ q, cP (fI (fI (fI (fI (fI (fI S 128 (27 + cP S i) (cF S2 128 (27 + cP S2 i))) 129 (27 + cP S i) (cF S2 129 (27 + cP S2 i))) 130 (27 + cP S i) (cF S2 130 (27 + cP S2 i))) 131 (27 + cP S i) (cF S2 131 (27 + cP S2 i))) 132 (27 + cP S i) (cF S2 132 (27 + cP S2 i))) 133 (27 + cP S i) (cF S2 133 (27 + cP S2 i))) q = cP S q := fun _ => rfl
    rw [eP]
    by_cases q : n = i
    · subst q
      have : F = 128 ∨ F = 129 ∨ F = 130 ∨ F = 131 ∨ F = 132 ∨ F = 133 := by omega
      rcases this with rfl | rfl | rfl | rfl | rfl | rfl
      · rw [fI_o (by omega), fI_o (by omega), fI_o (by omega), fI_o (by omega), fI_o (by omega), fI_s]
      · rw [fI_o (by omega), fI_o (by omega), fI_o (by omega), fI_o (by omega), fI_s]
      · rw [fI_o (by omega), fI_o (by omega), fI_o (by omega), fI_s]
      · rw [fI_o (by omega), fI_o (by omega), fI_s]
      · rw [fI_o (by omega), fI_s]
      · rw [fI_s]
    · have hk : cP S n ≠ cP S i := fun z => q ((rP i hi).2 n (by omega) z)
      rw [fI_o (by omega), fI_o (by omega), fI_o (by omega), fI_o (by omega), fI_o (by omega), fI_o (by omega)]
      exact hM n (by omega) F f1 f2
  · rw [fI_o (by omega), cF_fI]
    split
    · exact Or.inr hz
    · rw [fI_o (by omega), fI_o (by omega), fI_o (by omega), fI_o (by omega)]
      exact Or.inl rfl
end COPY2

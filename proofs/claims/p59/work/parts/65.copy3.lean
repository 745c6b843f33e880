section COPY3
variable {G : mgT} {μ : mmT} {a c : Nat} {S S2 S' : cT} {v w : Nat → Nat} {p n i d e t b x y k F : Nat}
theorem t_copyEnd {Q : mmT → Prop} (hsA : SS μ a) (hsC : SS μ c) (hd : a + 43 ≤ c ∨ c + 43 ≤ a) (h : ∀ S', cP S' = cP S → cA S' = cA S → (∀ F k, F < 228 → cF S' F k = cF S F k) → (∀ F, 228 ≤ F → F ≤ 232 → cF S' F 0 = cF S2 F 0) → (∀ F, 256 ≤ F → F ≤ 262 → cF S' F 4 = cF S2 F 4) → Q (CT (CT μ c S2) a S')) :
    mK (CT (CT μ c S2) a S) a = 8 ∧ ∃ a5, some c = some a5 ∧ (mK (CT (CT μ c S2) a S) a5 = 8 ∧ ∃ a8, mR (CT (CT μ c S2) a S) 227 a = some a8 ∧ (mK (CT (CT μ c S2) a S) a8 = 9 ∧ w_X9_copyFrom G (CT (CT μ c S2) a S) a8 (mR (CT (CT μ c S2) a S) 227 a5) (fun μ11 => mK μ11 a5 = 8 ∧ (mK μ11 a = 8 ∧ Q (sI (sI (sI (sI (sI μ11 228 a (mI μ11 228 a5)) 229 a (mI (sI μ11 228 a (mI μ11 228 a5)) 229 a5)) 230 a (mI (sI (sI μ11 228 a (mI μ11 228 a5)) 229 a (mI (sI μ11 228 a (mI μ11 228 a5)) 229 a5)) 230 a5)) 231 a (mI (sI (sI (sI μ11 228 a (mI μ11 228 a5)) 229 a (mI (sI μ11 228 a (mI μ11 228 a5)) 229 a5)) 230 a (mI (sI (sI μ11 228 a (mI μ11 228 a5)) 229 a (mI (sI μ11 228 a (mI μ11 228 a5)) 229 a5)) 230 a5)) 231 a5)) 232 a (mI (sI (sI (sI (sI μ11 228 a (mI μ11 228 a5)) 229 a (mI (sI μ11 228 a (mI μ11 228 a5)) 229 a5)) 230 a (mI (sI (sI μ11 228 a (mI μ11 228 a5)) 229 a (mI (sI μ11 228 a (mI μ11 228 a5)) 229 a5)) 230 a5)) 231 a (mI (sI (sI (sI μ11 228 a (mI μ11 228 a5)) 229 a (mI (sI μ11 228 a (mI μ11 228 a5)) 229 a5)) 230 a (mI (sI (sI μ11 228 a (mI μ11 228 a5)) 229 a (mI (sI μ11 228 a (mI μ11 228 a5)) 229 a5)) 230 a5)) 231 a5)) 232 a5)))))) := by
  have hA : SS (CT μ c S2) a := SS_in hsA hd
  have e4 : mR (CT (CT μ c S2) a S) 227 c = some (c + 4) := hsC.2.1.2.2.2
  have k4 : mK (CT (CT μ c S2) a S) (c + 4) = 9 := hsC.2.2.1.2.2.2
  have rc0 : ∀ (S : cT) (F : Nat), mI (CT (CT μ c S2) a S) F c = cF S2 F 0 := fun S F => rc_I (k := 0) hd (by omega)
  refine ⟨hA.k0, c, rfl, hsC.1, gt hA ?_⟩
  rw [e4]
  unfold w_X9_copyFrom
  refine ⟨_, rfl, k4, hA.k4, ?_⟩
  rw [rc_I (k := 4) hd (by omega), CT_sI (k := 4) (by omega), rc_I (k := 4) hd (by omega), CT_sI (k := 4) (by omega), rc_I (k := 4) hd (by omega), CT_sI (k := 4) (by omega), rc_I (k := 4) hd (by omega), CT_sI (k := 4) (by omega), rc_I (k := 4) hd (by omega), CT_sI (k := 4) (by omega), rc_I (k := 4) hd (by omega), CT_sI (k := 4) (by omega), rc_I (k := 4) hd (by omega), CT_sI (k := 4) (by omega)]
  refine ⟨hsC.1, hA.k0, ?_⟩
  rw [rc0, CT_sI0, rc0, CT_sI0, rc0, CT_sI0, rc0, CT_sI0, rc0, CT_sI0]
  refine h _ rfl rfl (fun F k z => by rw [fI_o (by omega), fI_o (by omega), fI_o (by omega), fI_o (by omega), fI_o (by omega), fI_o (by omega), fI_o (by omega), fI_o (by omega), fI_o (by omega), fI_o (by omega), fI_o (by omega), fI_o (by omega)]) (fun F f1 f2 => ?_) (fun F f1 f2 => ?_)
  · have : F = 228 ∨ F = 229 ∨ F = 230 ∨ F = 231 ∨ F = 232 := by omega
    rcases this with rfl | rfl | rfl | rfl | rfl
    · rw [fI_o (by omega), fI_o (by omega), fI_o (by omega), fI_o (by omega), fI_s]
    · rw [fI_o (by omega), fI_o (by omega), fI_o (by omega), fI_s]
    · rw [fI_o (by omega), fI_o (by omega), fI_s]
    · rw [fI_o (by omega), fI_s]
    · rw [fI_s]
  · rw [fI_o (by omega), fI_o (by omega), fI_o (by omega), fI_o (by omega), fI_o (by omega)]
    have : F = 256 ∨ F = 257 ∨ F = 258 ∨ F = 259 ∨ F = 260 ∨ F = 261 ∨ F = 262 := by omega
    rcases this with rfl | rfl | rfl | rfl | rfl | rfl | rfl
    · rw [fI_o (by omega), fI_o (by omega), fI_o (by omega), fI_o (by omega), fI_o (by omega), fI_o (by omega), fI_s]
    · rw [fI_o (by omega), fI_o (by omega), fI_o (by omega), fI_o (by omega), fI_o (by omega), fI_s]
    · rw [fI_o (by omega), fI_o (by omega), fI_o (by omega), fI_o (by omega), fI_s]
    · rw [fI_o (by omega), fI_o (by omega), fI_o (by omega), fI_s]
    · rw [fI_o (by omega), fI_o (by omega), fI_s]
    · rw [fI_o (by omega), fI_s]
    · rw [fI_s]
end COPY3

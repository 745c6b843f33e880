section COPY4
variable {G : mgT} {μ : mmT} {a c : Nat} {S S2 S' : cT} {v w : Nat → Nat} {p n i d e t b x y k F : Nat}
theorem src_B (hsC : SS μ c) (hd : a + 43 ≤ c ∨ c + 43 ≤ a) : (∀ i, i < 6 → mB (CT (CT μ c S2) a S) (c + 1) i = some (c + (5 + 3 * i))) ∧ (∀ i, i < 4 → mB (CT (CT μ c S2) a S) (c + 2) i = some (c + (23 + i))) ∧ (∀ i, mB (CT (CT μ c S2) a S) (c + 3) i = some (c + (27 + cP S2 i))) :=
  ⟨fun i hi => (CT_Bo (by omega)).trans ((CT_Bo (by omega)).trans (hsC.2.2.2.2.1 i hi).1), fun i hi => (CT_Bo (by omega)).trans ((CT_Bo (by omega)).trans (hsC.2.2.2.2.2.1 i hi).1), fun i => (CT_Bo (by omega)).trans CT_B⟩
theorem t_copyFrom {Q : mmT → Prop} (hsA : SS μ a) (hsC : SS μ c) (hd : a + 43 ≤ c ∨ c + 43 ≤ a) (rP : RelP S) (rZ : RelZ S) (rP2 : RelP S2) (rZ2 : RelZ S2)
    (h : ∀ S', cP S' = cP S → RelZ S' → CpN S' S2 6 → CpC S' S2 4 → CpM S' S2 16 → (∀ F, 228 ≤ F → F ≤ 232 → cF S' F 0 = cF S2 F 0) → (∀ F, 256 ≤ F → F ≤ 262 → cF S' F 4 = cF S2 F 4) → Q (CT (CT μ c S2) a S')) : w_X8_copyFrom G (CT (CT μ c S2) a S) a (some c) Q := by
  have hA : SS (CT μ c S2) a := SS_in hsA hd
  have hB := fun (S : cT) => src_B (S := S) (S2 := S2) hsC hd
  unfold w_X8_copyFrom
  refine (lpE (W := fun n i => ∀ T, cP T = cP S → RelZ T → CpN T S2 i → w_X8_copyFrom_l2 G a Q n (some c) (nI i) (CT (CT μ c S2) a T)) (N := 6) ?_ (Nat.zero_le _)).imp fun n hn => hn S rfl rZ (fun n hn => absurd hn (Nat.not_lt_zero _))
  intro n i hi ih T hP zT hN
  show w_X8_copyFrom_b2 G a Q _ (some c) (nI i) _
  unfold w_X8_copyFrom_b2
  refine pk_le 6 i (fun cc => ?_) (fun cc => ⟨hA.k0, gn hA cc ⟨c, rfl, hsC.1, c + 1, hsC.2.1.1, hsC.2.2.1.1, ?_, gno hA cc ?_⟩⟩)
  · have e6 : i = 6 := by omega
    subst e6
    clear ih
    refine (lpE (W := fun n i => ∀ T, cP T = cP S → RelZ T → CpN T S2 6 → CpC T S2 i → w_X8_copyFrom_l31 G a Q n (some c) (nI i) (CT (CT μ c S2) a T)) (N := 4) ?_ (Nat.zero_le _)).imp fun n hn => hn T hP zT hN (fun n hn => absurd hn (Nat.not_lt_zero _))
    clear hP zT hN hi cc
    intro n i hi ih T hP zT hN hC
    show w_X8_copyFrom_b31 G a Q _ (some c) (nI i) _
    unfold w_X8_copyFrom_b31
    refine pk_le 4 i (fun cc => ?_) (fun cc => ⟨hA.k0, gc hA cc ⟨c, rfl, hsC.1, c + 2, hsC.2.1.2.1, hsC.2.2.1.2.1, ?_, gco hA cc ?_⟩⟩)
    · have e4 : i = 4 := by omega
      subst e4
      clear ih
      refine (lpE (W := fun n i => ∀ T, cP T = cP S → RelZ T → CpN T S2 6 → CpC T S2 4 → CpM T S2 i → w_X8_copyFrom_l59 G a Q n (some c) (nI i) (CT (CT μ c S2) a T)) (N := 16) ?_ (Nat.zero_le _)).imp fun n hn => hn T hP zT hN hC (fun n hn => absurd hn (Nat.not_lt_zero _))
      clear hP zT hN hC hi cc
      intro n i hi ih T hP zT hN hC hM
      show w_X8_copyFrom_b59 G a Q _ (some c) (nI i) _
      unfold w_X8_copyFrom_b59
      have rPT : RelP T := RelP_c rP hP
      refine pk_le 16 i (fun cc => ?_) (fun cc => ⟨hA.k0, gm hA cc ⟨c, rfl, hsC.1, c + 3, hsC.2.1.2.2.1, hsC.2.2.1.2.2.1, ?_, gmo hA (by omega) (rPT i cc).1 ?_⟩⟩)
      · have e16 : i = 16 := by omega
        subst e16
        refine t_copyEnd hsA hsC hd (fun S' q1 q2 q3 q4 q5 => h S' (q1.trans hP) (RelZ_c zT (fun k => q3 _ _ (by decide)) (fun k => q3 _ _ (by decide))) (fun n hn => ⟨fun F f1 f2 => by rw [q3 _ _ (by omega)]; exact (hN n hn).1 F f1 f2, fun k hk => by rw [q2]; exact (hN n hn).2 k hk⟩) (fun n hn F f1 f2 => by rw [q3 _ _ (by omega)]; exact hC n hn F f1 f2) (fun p hp F f1 f2 => by rw [q3 _ _ (by omega), q1]; exact hM p hp F f1 f2) q4 q5)
      · show vp_in _ (mN μ (c + 3))
        rw [hsC.2.2.2.1.2.2]
        exact vp_in_nI cc (by omega)
      · rw [cl (by omega), (hB T).2.2 i]
        refine t_messageCopy hsA hsC hd cc rPT (rP2 i cc).1 hM (rZ2.1 _ (rP2 i cc).1) (fun S' q1 q2 q3 q4 q5 => ?_)
        rw [nI_add]
        refine ih cc S' (q2.trans hP) ⟨fun k hk => (q5 (27 + k)).elim (fun z => by rw [z]; exact zT.1 k hk) id, fun k hk => by rw [q4 _ _ (by omega)]; exact zT.2 k hk⟩ (fun n hn => ⟨fun F f1 f2 => by rw [q4 _ _ (by omega)]; exact (hN n hn).1 F f1 f2, fun k hk => by rw [q3]; exact (hN n hn).2 k hk⟩) (fun n hn F f1 f2 => by rw [q4 _ _ (by omega)]; exact hC n hn F f1 f2) q1
    · show vp_in _ (mN μ (c + 2))
      rw [hsC.2.2.2.1.2.1]
      exact vp_in_nI cc (by omega)
    · rw [cl (by omega), (hB T).2.1 i cc]
      refine t_crowCopy hsA hsC hd cc hC (rZ2.2 i cc) (fun S' q1 q2 q3 q4 q5 => ?_)
      rw [nI_add]
      refine ih cc S' (q2.trans hP) ⟨fun k hk => by rw [q4 _ _ (by omega)]; exact zT.1 k hk, fun k hk => (q5 (23 + k)).elim (fun z => by rw [z]; exact zT.2 k hk) id⟩ (fun n hn => ⟨fun F f1 f2 => by rw [q4 _ _ (by omega)]; exact (hN n hn).1 F f1 f2, fun k hk => by rw [q3]; exact (hN n hn).2 k hk⟩) q1
  · show vp_in _ (mN μ (c + 1))
    rw [hsC.2.2.2.1.1]
    exact vp_in_nI cc (by omega)
  · rw [cl (by omega), (hB T).1 i cc]
    refine t_nestCopy hsA hsC hd cc hN (fun S' q1 q2 q3 => ?_)
    rw [nI_add]
    exact ih cc S' (q2.trans hP) ⟨fun k hk => by rw [q3 _ _ (by omega)]; exact zT.1 k hk, fun k hk => by rw [q3 _ _ (by omega)]; exact zT.2 k hk⟩ q1
end COPY4

/-! LENGTHS OF NAPS, CONSISTENCY -/
section QUERY4
variable {G : mgT} {μ ν ρ : mmT} {z a b c m i j F n : Nat} {S S2 : cT} {v w : Nat → Nat} {B : Nat} {x y : Int32}
theorem shl_k : ∀ k : Fin 41, (lN 1) <<< ((nI k.val).toInt64 &&& 63) = lN (2 ^ k.val) := by decide +kernel
theorem shl_n {k : Nat} (h : k ≤ 40) : (lN 1) <<< ((nI k).toInt64 &&& 63) = lN (2 ^ k) := shl_k ⟨k, by omega⟩
theorem t_doubledNap {Q : Int64 → Prop} {k : Nat} (hk : k ≤ 40) (h : Q (lN (2 ^ k))) : w_X10_doubledNap G μ (nI k) Q := by
  unfold w_X10_doubledNap
  refine (lpE (W := fun n i => w_X10_doubledNap_l4 G μ Q n (nI k) (lN (2 ^ i)) (nI i)) (N := k) ?_ (Nat.zero_le _)).imp fun n hn => hn
  intro n i hi ih
  show w_X10_doubledNap_b4 G μ Q _ (nI k) (lN (2 ^ i)) (nI i)
  unfold w_X10_doubledNap_b4
  refine pk_le k i (fun c => ?_) (fun hl => ?_)
  · have : i = k := by omega
    rw [this]
    exact h
  · have := ih hl
    rw [lN_add, nI_add, show 2 ^ i + 2 ^ i = 2 ^ (i + 1) by rw [Nat.pow_succ]; omega]
    exact this
theorem t_napAgree {Q : Int32 → Prop} (h : Q (nI 1)) : w_X10_napLengthsAgree G μ Q := by
  unfold w_X10_napLengthsAgree
  refine (lpE (W := fun n i => w_X10_napLengthsAgree_l2 G μ Q n (nI i)) (N := 41) ?_ (Nat.zero_le _)).imp fun n hn => hn
  intro n i hi ih
  show w_X10_napLengthsAgree_b2 G μ Q _ (nI i)
  unfold w_X10_napLengthsAgree_b2 w_X10_shiftedNap
  refine pk_lt 40 i (fun _ => h) (fun c => ?_)
  rw [shl_n c]
  refine t_doubledNap c ⟨fun _ => ?_, fun c2 => absurd lg_self c2⟩
  · rw [nI_add]
    exact ih (by omega)
theorem t_withStatus {Q : Int32 → Prop} {s : Nat} (hs : SS μ a) (hr : Rel S v 4 16) (l : Lim v) (hb : Bd B v) (hB : B < 2 ^ 30) (hx : s < 2 ^ 30) (h : Q (nI (cS v s))) : w_X8_messagesWithStatus G (CT μ a S) a (nI s) Q := by
  have l2 := l.1.2.2
  unfold w_X8_messagesWithStatus
  refine (lpE (W := fun n i => w_X8_messagesWithStatus_l4 G (CT μ a S) a Q n (nI s) (nI (cnt (fun q => decide (v (146 + 7 * q + 4) = s)) i)) (nI i)) (N := v 2) ?_ (Nat.zero_le _)).imp fun n hn => hn
  intro n i hi ih
  show w_X8_messagesWithStatus_b4 G (CT μ a S) a Q _ (nI s) _ (nI i)
  unfold w_X8_messagesWithStatus_b4 w_X8_messagesWithStatus_b28
  rw [CT_I0, hr.1.2.2.1]
  refine ⟨hs.k0, pk_le (v 2) i (fun c => ?_) (fun hl => gm hs (by omega) (gmo hs (by omega) (rel_P hr l hl) ?_))⟩
  · have : i = v 2 := by omega
    rw [this]
    exact h
  · have := ih hl
    rw [cnt_S] at this
    have bq := hb (146 + 7 * i + 4)
    rw [CT_I (by have := rel_P hr l hl; omega), (hr.2.2.2.2.1 i hl).1.2.2.2.2, nI_add, nI_add]
    refine ⟨fun c => ?_, fun c => ?_⟩
    · rw [if_neg (fun q => c (by rw [of_decide_eq_true q]))] at this
      exact this
    · rw [if_pos (decide_eq_true (nI_inj (by omega) (by omega) c))] at this
      exact this
theorem t_flyingCrows {Q : Int32 → Prop} (hs : SS μ a) (hr : Rel S v 4 16) (l : Lim v) (h : Q (nI (cC v))) : w_X8_flyingCrows G (CT μ a S) a Q := by
  have l1 := l.1.2.1
  unfold w_X8_flyingCrows
  refine (lpE (W := fun n i => w_X8_flyingCrows_l4 G (CT μ a S) a Q n (nI (cnt (fun c => decide (v (138 + 2 * c) ≠ 0)) i)) (nI i)) (N := v 1) ?_ (Nat.zero_le _)).imp fun n hn => hn
  intro n i hi ih
  show w_X8_flyingCrows_b4 G (CT μ a S) a Q _ _ (nI i)
  unfold w_X8_flyingCrows_b4 w_X8_flyingCrows_b27
  rw [CT_I0, hr.1.2.1]
  refine ⟨hs.k0, pk_le (v 1) i (fun c => ?_) (fun hl => gc hs (by omega) (gco hs (by omega) ?_))⟩
  · have : i = v 1 := by omega
    rw [this]
    exact h
  · have := ih hl
    rw [cnt_S] at this
    rw [CT_I (by omega), (hr.2.2.2.1 i hl).1, nI_add, nI_add]
    by_cases f : v (138 + 2 * i) = 0
    · rw [if_neg (show ¬ decide (v (138 + 2 * i) ≠ 0) = true from fun q => of_decide_eq_true q f)] at this
      rw [if_pos f]
      exact ⟨fun _ => this, fun c => absurd rfl c⟩
    · rw [if_pos (decide_eq_true f)] at this
      rw [if_neg f]
      exact ⟨fun c => absurd c (by decide), fun _ => this⟩
theorem t_inInboxes {Q : Int32 → Prop} (hs : SS μ a) (hr : Rel S v 4 16) (l : Lim v) (h : Q (nI (sN v))) : w_X8_messagesInInboxes G (CT μ a S) a Q := by
  have l0 := l.1.1
  unfold w_X8_messagesInInboxes
  refine (lpE (W := fun n i => w_X8_messagesInInboxes_l4 G (CT μ a S) a Q n (nI (su (fun n => v (12 + 21 * n + 2)) i)) (nI i)) (N := v 0) ?_ (Nat.zero_le _)).imp fun n hn => hn
  intro n i hi ih
  show w_X8_messagesInInboxes_b4 G (CT μ a S) a Q _ _ (nI i)
  unfold w_X8_messagesInInboxes_b4
  rw [CT_I0, hr.1.1]
  refine ⟨hs.k0, pk_le (v 0) i (fun c => ?_) (fun hl => gn hs (by omega) (gno hs (by omega) ?_))⟩
  · have : i = v 0 := by omega
    rw [this]
    exact h
  · have := ih hl
    rw [CT_I (by omega), (hr.2.2.1 i hl).1.2.2.2.1, nI_add, nI_add]
    exact this
theorem t_existing {Q : Int32 → Prop} (hs : SS μ a) (hr : Rel S v 4 16) (h : J B 16 v) (hq : Q (nI (v 2))) : w_X9_existing G (CT μ a S) (a + 4) Q := by
  have hT := h.2.1
  unfold tot at hT
  unfold w_X9_existing
  refine ⟨hs.k4, ?_⟩
  rw [CT_I (k := 4) (by decide), CT_I (k := 4) (by decide), CT_I (k := 4) (by decide), CT_I (k := 4) (by decide), CT_I (k := 4) (by decide), hr.2.1.1, hr.2.1.2.2.1, hr.2.1.2.2.2.1, hr.2.1.2.2.2.2.1, hr.2.1.2.2.2.2.2.1, pk_sub (by omega), pk_sub (by omega), pk_sub (by omega), pk_sub (by omega), show v 3 - v 7 - v 8 - v 9 - v 11 = v 2 by omega]
  exact hq
theorem t_isConsistent {Q : Int32 → Prop} (hT : ST μ z) (hr : Rel S v 4 16) (h : J B 16 v) (hB : B < 2 ^ 30) (hq : Q (nI 1)) : w_X10_isConsistent G (CT μ (z + 1) S) z Q := by
  have l := h.1.1
  unfold w_X10_isConsistent w_X10_isConsistent_b69
  refine t_napAgree ⟨fun c => absurd c (by decide), fun _ => ⟨hT.kz, _, hT.z1, hT.s1.1, _, hT.s1.r4, hT.s1.k4, t_existing hT.s1 hr h ?_⟩⟩
  rw [CT_I0, hr.1.2.2.1]
  refine ⟨fun c => absurd rfl c, fun _ => t_withStatus hT.s1 hr l h.2.2 hB (by decide) (t_flyingCrows hT.s1 hr l ?_)⟩
  rw [h.1.2.2.2.2.2.1, Nat.add_zero]
  refine ⟨fun c => absurd rfl c, fun _ => t_withStatus hT.s1 hr l h.2.2 hB (by decide) (t_inInboxes hT.s1 hr l ?_)⟩
  rw [h.1.2.2.2.2.2.2, Nat.add_zero]
  exact ⟨fun c => absurd rfl c, fun _ => ⟨Or.inr rfl, hq⟩⟩
end QUERY4

/-! QUESTIONS ABOUT MESSAGES -/
section QUERY3
variable {G : mgT} {μ ν ρ : mmT} {z a b c m i F n : Nat} {S S2 : cT} {v w : Nat → Nat} {B : Nat} {x y : Int32}
theorem rel_p (hr : Rel S v 4 16) (l : Lim v) : ∀ p, p < v 2 → cP S p < 16 ∧ cF S 128 (27 + cP S p) = nI (v (146 + 7 * p)) := fun p hp => ⟨(hr.2.2.2.2.2.1 p (by have := l.1.2.2; omega)).1, (hr.2.2.2.2.1 p hp).1.1⟩
theorem rel_P (hr : Rel S v 4 16) (l : Lim v) {p : Nat} (hp : p < v 2) : cP S p < 16 := (rel_p hr l p hp).1
theorem x_msg {Q : Option Nat → Prop} {X : String → Prop} (hT : ST μ z) (hr : Rel S v 4 16) (l : Lim v) (h1 : fPl v x < v 2 → Q (some (z + 1 + (27 + cP S (fPl v x))))) (h0 : ¬ fPl v x < v 2 → X "java/util/NoSuchElementException") : w_X10_existingMessage G (CT μ (z + 1) S) z x Q X := by
  refine ⟨hT.kz, _, hT.z1, hT.s1.1, t_messageWith hT.s1 hr.1 (rel_p hr l) l.1.2.2 ?_⟩
  by_cases q : fPl v x < v 2
  · rw [if_pos q]
    exact ⟨fun z => (nomatch z), fun a6 e6 => h1 q⟩
  · rw [if_neg q]
    exact ⟨fun _ => h0 q, fun a z => (nomatch z)⟩
theorem s_asked {Q : Int32 → mmT → Prop} {j : Nat} (hm : MS μ m) (l : Lim v) (hj : j < 7) (h1 : fPl v x < v 2 → Q (nI (v (146 + 7 * fPl v x + j))) (VT (sI μ 320 m (nI 0)) m v)) (h0 : ¬ fPl v x < v 2 → Q (nI 0) (VT (sI μ 320 m (nI 1)) m v)) : w_X11_asked G (VT μ m v) m x (nI j) Q := by
  have l2 := l.1.2.2
  unfold w_X11_asked w_X11_asked_b17 w_X11_asked_b37
  refine ⟨hm.1, s_X11_placeOf hm l2 ?_⟩
  by_cases q : fPl v x < v 2
  · rw [pn_y q]
    refine ⟨fun _ => ⟨m, rfl, hm.1, hm.1, fun _ => ?_, fun c => ?_⟩, fun e => absurd e (nI_m1 (by omega))⟩
    · rw [VT_sI]
      exact s_X11_of (MS_sI hm) (by omega) (h1 q)
    · rw [sI_e] at c
      exact absurd (by decide) c
  · rw [pn_n q]
    refine ⟨fun c => absurd rfl c, fun _ => ⟨m, rfl, hm.1, hm.1, fun c => ?_, fun _ => h0 q⟩⟩
    rw [sI_e] at c
    exact absurd c (by decide)
theorem q_msg {W10 : mgT → mmT → Nat → Int32 → (Int32 → Prop) → (String → Prop) → Prop} {W11 : mgT → mmT → Nat → Int32 → (Int32 → mmT → Prop) → Prop} {F j : Nat} (hj : j < 7) (l : Lim v)
    (h10 : ∀ G μ z x Q X, W10 G μ z x Q X = (mK μ z = 10 ∧ w_X10_existingMessage G μ z x (fun ru2 => ∃ a3, ru2 = some a3 ∧ (mK μ a3 = 5 ∧ Q (mI μ F a3))) X))
    (h11 : ∀ G μ m x Q, W11 G μ m x Q = (mK μ m = 11 ∧ w_X11_asked G μ m x (nI j) (fun u2 μ3 => Q u2 μ3)))
    (hF : ∀ S, Rel S v 4 16 → ∀ n, n < v 2 → cF S F (27 + cP S n) = nI (v (146 + 7 * n + j))) : QP v (fun G μ z Q X => W10 G μ z x Q X) (fun G μ m Q => W11 G μ m x Q) [(1, "java/util/NoSuchElementException")] := by
  have l2 := l.1.2.2
  by_cases q : fPl v x < v 2
  · refine Or.inl ⟨nI (v (146 + 7 * fPl v x + j)), fun G μ z S Q X hT hr hq => ?_, fun G μ m Q hm hq => ?_⟩
    · show W10 _ _ _ _ _ _
      rw [h10]
      have hc := rel_P hr l q
      refine ⟨hT.kz, x_msg hT hr l (fun _ => ⟨_, rfl, hT.s1.mk hc, ?_⟩) (fun c => absurd q c)⟩
      rw [CT_I (by omega), hF S hr _ q]
      exact hq
    · show W11 _ _ _ _ _
      rw [h11]
      exact ⟨hm.1, s_asked hm l hj (fun _ => hq) (fun c => absurd q c)⟩
  · refine Or.inr ⟨_, List.mem_cons_self, fun G μ z S Q X hT hr hq => ?_, fun G μ m Q hm hq => ?_⟩
    · show W10 _ _ _ _ _ _
      rw [h10]
      exact ⟨hT.kz, x_msg hT hr l (fun c => absurd c q) (fun _ => hq)⟩
    · show W11 _ _ _ _ _
      rw [h11]
      exact ⟨hm.1, s_asked hm l hj (fun c => absurd c q) (fun _ => hq _)⟩
theorem q_nestOf (l : Lim v) : QP v (fun G μ z Q X => w_X10_nestOf G μ z x Q X) (fun G μ m Q => w_X11_nestOf G μ m x Q) [(1, "java/util/NoSuchElementException")] :=
  q_msg (F := 129) (j := 1) (by decide) l (fun _ _ _ _ _ _ => rfl) (fun _ _ _ _ _ => rfl) (fun S r n hn => (r.2.2.2.2.1 n hn).1.2.1)
theorem q_keyOf (l : Lim v) : QP v (fun G μ z Q X => w_X10_keyOf G μ z x Q X) (fun G μ m Q => w_X11_keyOf G μ m x Q) [(1, "java/util/NoSuchElementException")] :=
  q_msg (F := 130) (j := 2) (by decide) l (fun _ _ _ _ _ _ => rfl) (fun _ _ _ _ _ => rfl) (fun S r n hn => (r.2.2.2.2.1 n hn).1.2.2.1)
theorem q_attempts (l : Lim v) : QP v (fun G μ z Q X => w_X10_attempts G μ z x Q X) (fun G μ m Q => w_X11_attempts G μ m x Q) [(1, "java/util/NoSuchElementException")] :=
  q_msg (F := 131) (j := 3) (by decide) l (fun _ _ _ _ _ _ => rfl) (fun _ _ _ _ _ => rfl) (fun S r n hn => (r.2.2.2.2.1 n hn).1.2.2.2.1)
theorem chN {n : Nat} (h : n < 65536) : ((nI n).toUInt32 % 65536).toInt32 = nI n := by
  rw [pk_char, pk_tn (by omega), Nat.mod_eq_of_lt h]
theorem q_status (h : J B 16 v) : QP v (fun G μ z Q X => w_X10_status G μ z x Q X) (fun G μ m Q => w_X11_status G μ m x Q) [(1, "java/util/NoSuchElementException")] := by
  have l := h.1.1
  have l2 := l.1.2.2
  by_cases q : fPl v x < v 2
  · have hs : v (146 + 7 * fPl v x + 4) < 65536 := by
      have := (h.1.2.2.1 _ q).1
      omega
    refine Or.inl ⟨nI (v (146 + 7 * fPl v x + 4)), fun G μ z S Q X hT hr hq => ?_, fun G μ m Q hm hq => ?_⟩
    · unfold w_X10_status
      have hc := rel_P hr l q
      refine ⟨hT.kz, x_msg hT hr l (fun _ => ⟨_, rfl, hT.s1.mk hc, ?_⟩) (fun c => absurd q c)⟩
      rw [CT_I (by omega), (hr.2.2.2.2.1 _ q).1.2.2.2.2]
      exact ⟨isCh_n hs, hq⟩
    · unfold w_X11_status
      refine ⟨hm.1, s_asked hm l (by decide) (fun _ => ?_) (fun c => absurd q c)⟩
      rw [chN hs]
      exact ⟨isCh_n hs, hq⟩
  · refine Or.inr ⟨_, List.mem_cons_self, fun G μ z S Q X hT hr hq => ?_, fun G μ m Q hm hq => ?_⟩
    · unfold w_X10_status
      exact ⟨hT.kz, x_msg hT hr l (fun c => absurd c q) (fun _ => hq)⟩
    · unfold w_X11_status
      refine ⟨hm.1, s_asked hm l (by decide) (fun c => absurd c q) (fun _ => ?_)⟩
      rw [chN (by decide)]
      exact ⟨isCh_n (by decide), hq _⟩
theorem q_napMinutes (h : J B 16 v) (hB : B < 2 ^ 30) : QP v (fun G μ z Q X => w_X10_napMinutes G μ z x Q X) (fun G μ m Q => w_X11_napMinutes G μ m x Q) [(1, "java/util/NoSuchElementException"), (2, "java/lang/IllegalStateException")] := by
  have l := h.1.1
  have l2 := l.1.2.2
  have b4 := h.2.2 4
  by_cases q : fPl v x < v 2
  · have b1 := h.2.2 (146 + 7 * fPl v x + 4)
    have b5 := h.2.2 (146 + 7 * fPl v x + 5)
    by_cases s : v (146 + 7 * fPl v x + 4) = 110
    · refine Or.inl ⟨nI (v (146 + 7 * fPl v x + 5)), fun G μ z S Q X hT hr hq => ?_, fun G μ m Q hm hq => ?_⟩
      · unfold w_X10_napMinutes
        have hc := rel_P hr l q
        refine ⟨hT.kz, x_msg hT hr l (fun _ => ⟨_, rfl, hT.s1.mk hc, ?_⟩) (fun c => absurd q c)⟩
        rw [CT_I (by omega), (hr.2.2.2.2.1 _ q).1.2.2.2.2, s]
        refine ⟨fun _ => ⟨_, hT.z1, hT.s1.1, ?_⟩, fun c => absurd rfl c⟩
        rw [CT_I (by omega), CT_I0, hr.1.2.2.2.1, (hr.2.2.2.2.1 _ q).2 s, if_neg (by omega), pk_sub (by omega), show v 4 + v (146 + 7 * fPl v x + 5) - 0 - v 4 = v (146 + 7 * fPl v x + 5) by omega]
        exact hq
      · unfold w_X11_napMinutes w_X11_napMinutes_b32 w_X11_napMinutes_b52
        refine ⟨hm.1, s_X11_placeOf hm l2 ?_⟩
        rw [pn_y q]
        refine ⟨fun _ => s_X11_of hm (by omega) ⟨fun c => absurd (by rw [s]) c, fun _ => ⟨m, rfl, hm.1, hm.1, fun _ => ?_, fun c => ?_⟩⟩, fun e => absurd e (nI_m1 (by omega))⟩
        · rw [VT_sI]
          exact s_X11_of (MS_sI hm) (by omega) hq
        · rw [sI_e] at c
          exact absurd (by decide) c
    · refine Or.inr ⟨_, List.mem_cons_of_mem _ List.mem_cons_self, fun G μ z S Q X hT hr hq => ?_, fun G μ m Q hm hq => ?_⟩
      · unfold w_X10_napMinutes
        have hc := rel_P hr l q
        refine ⟨hT.kz, x_msg hT hr l (fun _ => ⟨_, rfl, hT.s1.mk hc, ?_⟩) (fun c => absurd q c)⟩
        rw [CT_I (by omega), (hr.2.2.2.2.1 _ q).1.2.2.2.2]
        exact ⟨fun e => absurd (nI_inj (by omega) (by decide) e) s, fun _ => hq⟩
      · unfold w_X11_napMinutes w_X11_napMinutes_b32 w_X11_napMinutes_b52
        refine ⟨hm.1, s_X11_placeOf hm l2 ?_⟩
        rw [pn_y q]
        refine ⟨fun _ => s_X11_of hm (by omega) ⟨fun _ => ⟨m, rfl, hm.1, hm.1, fun c => ?_, fun _ => hq _⟩, fun e => absurd (nI_inj (by omega) (by decide) e) s⟩, fun e => absurd e (nI_m1 (by omega))⟩
        rw [sI_e] at c
        exact absurd c (by decide)
  · refine Or.inr ⟨_, List.mem_cons_self, fun G μ z S Q X hT hr hq => ?_, fun G μ m Q hm hq => ?_⟩
    · unfold w_X10_napMinutes
      exact ⟨hT.kz, x_msg hT hr l (fun c => absurd c q) (fun _ => hq)⟩
    · unfold w_X11_napMinutes w_X11_napMinutes_b32 w_X11_napMinutes_b52
      refine ⟨hm.1, s_X11_placeOf hm l2 ?_⟩
      rw [pn_n q]
      refine ⟨fun c => absurd rfl c, fun _ => ⟨m, rfl, hm.1, hm.1, fun c => ?_, fun _ => hq _⟩⟩
      rw [sI_e] at c
      exact absurd c (by decide)
theorem q_wouldBeLost (h : J B 16 v) (hb0 : 119 ≤ B) (hB : B < 2 ^ 28) : QB v (fun G μ z Q X => w_X10_wouldBeLost G μ z x Q X) (fun G μ m Q => w_X11_wouldBeLost G μ m x Q) [(1, "java/util/NoSuchElementException"), (2, "java/lang/IllegalStateException")] := by
  have l := h.1.1
  have l2 := l.1.2.2
  have l0 := l.1.1
  by_cases q : fPl v x < v 2
  · have b1 := h.2.2 (146 + 7 * fPl v x + 4)
    have m5 := (h.1.2.2.1 _ q).2.2.1
    have hn := l.2.2 _ q
    by_cases s : v (146 + 7 * fPl v x + 4) = 100
    · refine Or.inr ⟨_, List.mem_cons_of_mem _ List.mem_cons_self, fun G μ z S Q X hT hr hq => ?_, fun G μ m Q hm hq => ?_⟩
      · unfold w_X10_wouldBeLost
        have hc := rel_P hr l q
        refine ⟨hT.kz, x_msg hT hr l (fun _ => ⟨_, rfl, hT.s1.mk hc, ?_⟩) (fun c => absurd q c)⟩
        rw [CT_I (by omega), (hr.2.2.2.2.1 _ q).1.2.2.2.2, s]
        exact ⟨fun c => absurd rfl c, fun _ => hq⟩
      · unfold w_X11_wouldBeLost w_X11_wouldBeLost_b32 w_X11_wouldBeLost_b62 w_X11_wouldBeLost_b63
        refine ⟨hm.1, s_X11_placeOf hm l2 ?_⟩
        rw [pn_y q]
        refine ⟨fun _ => s_X11_of hm (by omega) ⟨fun c => absurd (by rw [s]) c, fun _ => ⟨m, rfl, hm.1, hm.1, fun _ => ⟨Or.inl rfl, hq _⟩, fun c => ?_⟩⟩, fun e => absurd e (nI_m1 (by omega))⟩
        rw [sI_e] at c
        exact absurd c (by decide)
    · refine Or.inl ⟨if fLost v (fPl v x) (v (146 + 7 * fPl v x + 3) + 1) then 1 else 0, b01, fun G μ z S Q X hT hr hq => ?_, fun G μ m Q hm hq => ?_⟩
      · unfold w_X10_wouldBeLost
        have hc := rel_P hr l q
        have e := (hr.2.2.2.2.1 _ q).1
        refine ⟨hT.kz, x_msg hT hr l (fun _ => ⟨_, rfl, hT.s1.mk hc, ?_⟩) (fun c => absurd q c)⟩
        rw [CT_I (by omega), e.2.2.2.2, CT_I (by omega), e.2.2.2.1, nI_add]
        refine ⟨fun _ => ⟨_, hT.z1, hT.s1.1, t_isLost hT.s1 l hr.1 hr.2.2.1 q hc ⟨e.1, e.2.1⟩ h.2.2 (by omega) (by omega) ⟨b01, hq⟩⟩, fun e => absurd (nI_inj (by omega) (by decide) e) s⟩
      · unfold w_X11_wouldBeLost w_X11_wouldBeLost_b32 w_X11_wouldBeLost_b62 w_X11_wouldBeLost_b63
        refine ⟨hm.1, s_X11_placeOf hm l2 ?_⟩
        rw [pn_y q]
        refine ⟨fun _ => s_X11_of hm (by omega) ⟨fun _ => ⟨m, rfl, hm.1, hm.1, fun c => ?_, fun _ => ?_⟩, fun e => absurd (nI_inj (by omega) (by decide) e) s⟩, fun e => absurd e (nI_m1 (by omega))⟩
        · rw [sI_e] at c
          exact absurd rfl c
        · rw [VT_sI]
          refine s_X11_of (MS_sI hm) (by omega) ?_
          rw [nI_add]
          refine s_X11_isLost (MS_sI hm) (by omega) (by omega) h.2.2 (by omega) (by omega) ?_
          by_cases hk : fLost v (fPl v x) (v (146 + 7 * fPl v x + 3) + 1) = true
          · rw [if_pos hk] at hq ⊢
            exact ⟨fun z => absurd z (by decide), fun _ => ⟨Or.inr rfl, hq⟩⟩
          · rw [if_neg hk] at hq ⊢
            exact ⟨fun _ => ⟨Or.inl rfl, hq⟩, fun z => absurd rfl z⟩
  · refine Or.inr ⟨_, List.mem_cons_self, fun G μ z S Q X hT hr hq => ?_, fun G μ m Q hm hq => ?_⟩
    · unfold w_X10_wouldBeLost
      exact ⟨hT.kz, x_msg hT hr l (fun c => absurd c q) (fun _ => hq)⟩
    · unfold w_X11_wouldBeLost w_X11_wouldBeLost_b32 w_X11_wouldBeLost_b62 w_X11_wouldBeLost_b63
      refine ⟨hm.1, s_X11_placeOf hm l2 ?_⟩
      rw [pn_n q]
      refine ⟨fun c => absurd rfl c, fun _ => ⟨m, rfl, hm.1, hm.1, fun _ => ⟨Or.inl rfl, hq _⟩, fun c => ?_⟩⟩
      rw [sI_e] at c
      exact absurd c (by decide)
theorem q_waitingMessage (h : J B 16 v) (hB : B < 2 ^ 30) : QP v (fun G μ z Q X => w_X10_waitingMessage G μ z x Q X) (fun G μ m Q => w_X11_waitingMessage G μ m x Q) [(1, "java/util/NoSuchElementException")] := by
  have l := h.1.1
  have l2 := l.1.2.2
  have ht : ∀ p, p < v 2 → v (146 + 7 * p + 4) = 119 → v (146 + 7 * p + 3) ≤ 4 := fun p hp e => (h.1.2.2.1 p hp).2.1 (by omega)
  by_cases q : fWaiting v x < v 2
  · refine Or.inl ⟨nI (v (146 + 7 * fWaiting v x)), fun G μ z S Q X hT hr hq => ?_, fun G μ m Q hm hq => ?_⟩
    · unfold w_X10_waitingMessage
      have hc := rel_P hr l q
      refine ⟨hT.kz, _, hT.z1, hT.s1.1, t_waiting hT.s1 l hr.1 hr.2.2.2.2.1 hr.2.2.2.2.2.1 h.2.2 hB ht ?_⟩
      rw [if_pos q]
      refine ⟨fun z => (nomatch z), fun a6 e6 => ?_⟩
      cases e6
      refine ⟨hT.s1.mk hc, ?_⟩
      rw [CT_I (by omega), (hr.2.2.2.2.1 _ q).1.1]
      exact hq
    · unfold w_X11_waitingMessage w_X11_waitingMessage_b30
      refine ⟨hm.1, ?_⟩
      rw [VT_sI]
      refine s_X11_waiting (MS_sI hm) l2 h.2.2 hB ?_
      rw [pn_y q]
      exact ⟨fun _ => s_X11_of (MS_sI hm) (by omega) hq, fun e => absurd e (nI_m1 (by omega))⟩
  · refine Or.inr ⟨_, List.mem_cons_self, fun G μ z S Q X hT hr hq => ?_, fun G μ m Q hm hq => ?_⟩
    · unfold w_X10_waitingMessage
      refine ⟨hT.kz, _, hT.z1, hT.s1.1, t_waiting hT.s1 l hr.1 hr.2.2.2.2.1 hr.2.2.2.2.2.1 h.2.2 hB ht ?_⟩
      rw [if_neg q]
      exact ⟨fun _ => hq, fun a z => (nomatch z)⟩
    · unfold w_X11_waitingMessage w_X11_waitingMessage_b30 w_X11_fails
      refine ⟨hm.1, ?_⟩
      rw [VT_sI]
      refine s_X11_waiting (MS_sI hm) l2 h.2.2 hB ?_
      rw [pn_n q]
      refine ⟨fun c => absurd rfl c, fun _ => ⟨hm.1, ?_⟩⟩
      rw [VT_sI, sII]
      exact hq _
theorem q_messageAt (l : Lim v) : QP v (fun G μ z Q X => w_X10_messageAt G μ z x Q X) (fun G μ m Q => w_X11_messageAt G μ m x Q) [(1, "java/util/NoSuchElementException")] := by
  have l2 := l.1.2.2
  by_cases q : ∃ p, p < v 2 ∧ x = nI p
  · obtain ⟨p, hp, rfl⟩ := q
    refine Or.inl ⟨nI (v (146 + 7 * p)), fun G μ z S Q X hT hr hq => ?_, fun G μ m Q hm hq => ?_⟩
    · unfold w_X10_messageAt
      have hc := rel_P hr l hp
      refine ⟨fun c => absurd c (nI_nneg (by omega)), fun _ => ⟨hT.kz, _, hT.z1, hT.s1.1, ?_⟩⟩
      rw [CT_I0, hr.1.2.2.1]
      refine pk_lt p (v 2) (fun _ => gm hT.s1 (by omega) (gmo hT.s1 (by omega) hc ?_)) (fun c => by omega)
      rw [CT_I (by omega), (hr.2.2.2.2.1 _ hp).1.1]
      exact hq
    · unfold w_X11_messageAt w_X11_messageAt_b22 w_X11_messageAt_b42
      refine ⟨hm.1, rd_s hm (by omega) ?_⟩
      rw [cl (by omega), VT_A]
      refine s_X11_in (fun _ _ => ⟨fun z => absurd z (by decide), fun _ => ⟨m, rfl, hm.1, hm.1, fun _ => ?_, fun c => ?_⟩⟩) (fun c => absurd (in_of_lt (by omega) hp) c)
      · rw [VT_sI]
        exact s_X11_of (MS_sI hm) (by omega) hq
      · rw [sI_e] at c
        exact absurd (by decide) c
  · refine Or.inr ⟨_, List.mem_cons_self, fun G μ z S Q X hT hr hq => ?_, fun G μ m Q hm hq => ?_⟩
    · unfold w_X10_messageAt w_X10_messageAt_b15
      refine ⟨fun _ => hq, fun c0 => ⟨hT.kz, _, hT.z1, hT.s1.1, ?_, fun _ => hq⟩⟩
      rw [CT_I0, hr.1.2.2.1]
      intro c
      rcases pk_ix x (n := v 2) (by omega) with w1 | w1 | w1
      · exact absurd w1 c0
      · exact absurd c (Int32.not_lt.mpr w1)
      · exact absurd w1 q
    · unfold w_X11_messageAt w_X11_messageAt_b22 w_X11_messageAt_b42
      refine ⟨hm.1, rd_s hm (by omega) ?_⟩
      rw [cl (by omega), VT_A]
      refine s_X11_in (fun c1 c2 => absurd (lt_of_in (by omega) c1 c2) q) (fun c => ⟨fun _ => ⟨m, rfl, hm.1, hm.1, fun c => ?_, fun _ => hq _⟩, fun z => absurd rfl z⟩)
      rw [sI_e] at c
      exact absurd c (by decide)
end QUERY3

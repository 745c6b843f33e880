/-! QUESTIONS ABOUT KEYS, CROWS AND MESSAGES -/
def fKnX (v : Nat → Nat) (n : Nat) (x : Int32) : Bool := decide (ff (fun k => decide (nI (v (12 + 21 * n + 12 + k)) = x)) (v (12 + 21 * n + 11)) < v (12 + 21 * n + 11))
section QUERY2
variable {G : mgT} {μ ν ρ : mmT} {z a b c m i F n : Nat} {S S2 : cT} {v w : Nat → Nat} {B : Nat} {x y : Int32}
theorem t_knowsX {Q : Int32 → Prop} (hs : SS μ a) (hn : n < v 0) (l : Lim v) (hN : RelN S v) (h : Q (if fKnX v n x then 1 else 0)) : w_X6_knows G (CT μ a S) (a + (5 + 3 * n)) x Q := by
  have l0 := l.1.1
  obtain ⟨-, l2, -⟩ := l.2.1 n hn
  obtain ⟨e, -, ek⟩ := hN n hn
  unfold w_X6_knows
  refine (lpE (W := fun d i => (∀ j, j < i → ¬ nI (v (12 + 21 * n + 12 + j)) = x) → w_X6_knows_l2 G (CT μ a S) (a + (5 + 3 * n)) Q d x (nI i)) (N := v (12 + 21 * n + 11)) ?_ (Nat.zero_le _)).imp fun d hd => hd (fun j hj => absurd hj (Nat.not_lt_zero _))
  intro d i hi ih h0
  show w_X6_knows_b2 G (CT μ a S) (a + (5 + 3 * n)) Q _ x (nI i)
  unfold w_X6_knows_b2
  rw [CT_I (by omega), e.2.2.2.2]
  refine ⟨hs.nk (by omega), fun c => ?_, fun c => ?_⟩
  · have e9 := y_le (by omega) (by omega) c
    have e2 : fKnX v n x = false := by
      unfold fKnX
      rw [ff_none (fun j hj => decide_eq_false (h0 j (by omega)))]
      exact decide_eq_false (Nat.lt_irrefl _)
    rw [e2] at h
    exact h
  · have hl := ng_le (by omega) (by omega) c
    refine ⟨_, hs.nkey (by omega), hs.nkk (by omega), ?_, ?_⟩
    · rw [hs.nkn8 (by omega)]
      exact vp_in_nI (by omega) (by omega)
    · rw [cl (by omega), CT_A (by omega), ek i hl]
      refine ⟨fun c2 => ?_, fun c2 => ?_⟩
      · have := ih hl (fun j hj => by
          by_cases q : j = i
          · rw [q]
            exact c2
          · exact h0 j (by omega))
        rw [nI_add]
        exact this
      · have e2 : fKnX v n x = true := by
          unfold fKnX
          rw [ff_at hl (decide_eq_true c2) (fun j hj => decide_eq_false (h0 j hj))]
          exact decide_eq_true hl
        rw [e2] at h
        exact h
theorem s_knowsX {Q : Int32 → Prop} (hm : MS μ m) (hn : n < 6) (hk : v (12 + 21 * n + 11) ≤ 8) (h : Q (if fKnX v n x then 1 else 0)) : w_X11_knows G (VT μ m v) m (nI n) x Q := by
  unfold w_X11_knows
  refine (lpE (W := fun d i => (∀ j, j < i → ¬ nI (v (12 + 21 * n + 12 + j)) = x) → w_X11_knows_l2 G (VT μ m v) m Q d (nI n) x (nI i)) (N := v (12 + 21 * n + 11)) ?_ (Nat.zero_le _)).imp fun d hd => hd (fun j hj => absurd hj (Nat.not_lt_zero _))
  intro d i hi ih h0
  show w_X11_knows_b2 G (VT μ m v) m Q _ (nI n) x (nI i)
  unfold w_X11_knows_b2
  refine ⟨hm.1, s_X11_nest hm (by omega) (pk_le (v (12 + 21 * n + 11)) i (fun c => ?_) (fun hl => ?_))⟩
  · have e2 : fKnX v n x = false := by
      unfold fKnX
      rw [ff_none (fun j hj => decide_eq_false (h0 j (by omega)))]
      exact decide_eq_false (Nat.lt_irrefl _)
    rw [e2] at h
    exact h
  · rw [nI_add]
    refine s_X11_nest hm (by omega) ?_
    rw [show 12 + 21 * n + (12 + i) = 12 + 21 * n + 12 + i by omega]
    refine ⟨fun c2 => ?_, fun c2 => ?_⟩
    · have := ih hl (fun j hj => by
        by_cases q : j = i
        · rw [q]
          exact c2
        · exact h0 j (by omega))
      rw [nI_add]
      exact this
    · have e2 : fKnX v n x = true := by
        unfold fKnX
        rw [ff_at hl (decide_eq_true c2) (fun j hj => decide_eq_false (h0 j hj))]
        exact decide_eq_true hl
      rw [e2] at h
      exact h
theorem b01 {c : Bool} : (if c = true then (1 : Int32) else 0) = 0 ∨ (if c = true then (1 : Int32) else 0) = 1 := by
  by_cases h : c = true
  · exact Or.inr (if_pos h)
  · exact Or.inl (if_neg h)
theorem q_remembers (l : Lim v) : QB v (fun G μ z Q X => w_X10_remembers G μ z x y Q X) (fun G μ m Q => w_X11_remembers G μ m x y Q) [(1, "java/lang/IndexOutOfBoundsException")] := by
  have l0 := l.1.1
  by_cases q : ∃ n, n < v 0 ∧ x = nI n
  · obtain ⟨n, hn, rfl⟩ := q
    refine Or.inl ⟨if fKnX v n y then 1 else 0, b01, fun G μ z S Q X hT hr hq => ?_, fun G μ m Q hm hq => ?_⟩
    · unfold w_X10_remembers
      refine ⟨hT.kz, x_nest hT hr l (fun k hk e => ⟨_, rfl, hT.s1.nk (by omega), ?_⟩) (fun q => absurd rfl (q n hn))⟩
      obtain rfl := nI_inj (by omega) (by omega) e
      exact t_knowsX hT.s1 hn l hr.2.2.1 ⟨b01, hq⟩
    · unfold w_X11_remembers w_X11_remembers_b14 w_X11_remembers_b37 w_X11_remembers_b38
      refine ⟨hm.1, s_X11_isNest hm (by omega) (fun n2 h2 e => ⟨fun z => absurd z (by decide), fun _ => ⟨m, rfl, hm.1, hm.1, fun c => ?_, fun _ => ?_⟩⟩) (fun q => absurd rfl (q n hn))⟩
      · rw [sI_e] at c
        exact absurd rfl c
      · obtain rfl := nI_inj (by omega) (by omega) e
        rw [VT_sI]
        refine s_knowsX (MS_sI hm) (by omega) (l.2.1 n hn).2.1 ?_
        by_cases hk : fKnX v n y = true
        · rw [if_pos hk] at hq ⊢
          exact ⟨fun z => absurd z (by decide), fun _ => ⟨Or.inr rfl, hq⟩⟩
        · rw [if_neg hk] at hq ⊢
          exact ⟨fun _ => ⟨Or.inl rfl, hq⟩, fun z => absurd rfl z⟩
  · refine Or.inr ⟨_, List.mem_cons_self, fun G μ z S Q X hT hr hq => ?_, fun G μ m Q hm hq => ?_⟩
    · unfold w_X10_remembers
      exact ⟨hT.kz, x_nest hT hr l (fun k hk e => absurd ⟨k, hk, e⟩ q) (fun _ => hq)⟩
    · unfold w_X11_remembers w_X11_remembers_b14 w_X11_remembers_b37 w_X11_remembers_b38
      refine ⟨hm.1, s_X11_isNest hm (by omega) (fun k hk e => absurd ⟨k, hk, e⟩ q) (fun _ => ⟨fun _ => ⟨m, rfl, hm.1, hm.1, fun _ => ⟨Or.inl rfl, hq _⟩, fun c => ?_⟩, fun z => absurd rfl z⟩)⟩
      rw [sI_e] at c
      exact absurd c (by decide)
/-! crows -/
theorem t_crowAt {Q : Option Nat → Prop} (hs : SS μ a) (hS : RelS S v) (h0 : v 1 ≤ 4) (h1 : ∀ n, n < v 1 → x = nI n → Q (some (a + (23 + n)))) (h2 : (∀ n, n < v 1 → x ≠ nI n) → Q none) : w_X8_crowAt G (CT μ a S) a x Q := by
  unfold w_X8_crowAt w_X8_crowAt_b12 w_X8_crowAt_b22
  refine ⟨fun c => h2 (fun n hn e => nI_nneg (by omega) (e ▸ c)), fun c => ⟨hs.k0, ?_⟩⟩
  rw [CT_I0, hS.2.1]
  refine ⟨fun c2 => ?_, fun c2 => h2 (fun n hn e => c2 (by rw [e]; exact (nI_ltI (by omega) (by omega)).mpr hn))⟩
  rcases pk_ix x (n := v 1) (by omega) with q | q | q
  · exact absurd q c
  · exact absurd c2 (Int32.not_lt.mpr q)
  · obtain ⟨n, hn, rfl⟩ := q
    refine gc hs (by omega) ?_
    rw [cl (by omega), hs.cb (by omega)]
    exact h1 n hn rfl
theorem x_crow {Q : Option Nat → Prop} {X : String → Prop} (hT : ST μ z) (hr : Rel S v 4 16) (l : Lim v) (h1 : ∀ n, n < v 1 → x = nI n → Q (some (z + 1 + (23 + n)))) (h0 : (∀ n, n < v 1 → x ≠ nI n) → X "java/lang/IndexOutOfBoundsException") : w_X10_existingCrow G (CT μ (z + 1) S) z x Q X :=
  ⟨hT.kz, _, hT.z1, hT.s1.1, t_crowAt hT.s1 hr.1 l.1.2.1 (fun n hn e => ⟨fun z => (nomatch z), fun a6 e6 => h1 n hn e⟩) (fun q => ⟨fun _ => h0 q, fun a z => (nomatch z)⟩)⟩
theorem ix_crow (n : Nat) : nI 138 + nI 2 * nI n = nI (138 + 2 * n) := by rw [pk_mul, nI_add]
theorem nI_z {n : Nat} (h : n < 2 ^ 31) : nI n ≤ 0 ↔ n = 0 := by
  have := nI_leI (a := n) (b := 0) h (by decide)
  rw [show nI 0 = 0 from rfl] at this
  rw [this]
  omega
theorem q_isFlying (h : J B 16 v) (hB : B < 2 ^ 31) : QB v (fun G μ z Q X => w_X10_isFlying G μ z x Q X) (fun G μ m Q => w_X11_isFlying G μ m x Q) [(1, "java/lang/IndexOutOfBoundsException")] := by
  have l := h.1.1
  have l0 := l.1.2.1
  by_cases q : ∃ n, n < v 1 ∧ x = nI n
  · obtain ⟨n, hn, rfl⟩ := q
    have hb := h.2.2 (138 + 2 * n)
    refine Or.inl ⟨if v (138 + 2 * n) = 0 then 0 else 1, by split; exact Or.inl rfl; exact Or.inr rfl, fun G μ z S Q X hT hr hq => ?_, fun G μ m Q hm hq => ?_⟩
    · unfold w_X10_isFlying
      refine ⟨hT.kz, x_crow hT hr l (fun k hk e => ⟨_, rfl, hT.s1.ck (by omega), ?_⟩) (fun q => absurd rfl (q n hn))⟩
      obtain rfl := nI_inj (by omega) (by omega) e
      rw [CT_I (by omega), (hr.2.2.2.1 n hn).1]
      refine ⟨?_, hq⟩
      split
      · exact Or.inl rfl
      · exact Or.inr rfl
    · unfold w_X11_isFlying w_X11_isFlying_b14 w_X11_isFlying_b43 w_X11_isFlying_b44
      refine ⟨hm.1, s_X11_isCrow hm (by omega) (fun n2 h2 e => ⟨fun z => absurd z (by decide), fun _ => ⟨m, rfl, hm.1, hm.1, fun c => ?_, fun _ => ?_⟩⟩) (fun q => absurd rfl (q n hn))⟩
      · rw [sI_e] at c
        exact absurd rfl c
      · obtain rfl := nI_inj (by omega) (by omega) e
        rw [VT_sI, ix_crow]
        refine rd_s (MS_sI hm) (by omega) ?_
        rw [cl (by omega), VT_A]
        refine ⟨fun c => ?_, fun c => ?_⟩
        · rw [if_pos ((nI_z (by omega)).mp c)] at hq
          exact ⟨Or.inl rfl, hq⟩
        · rw [if_neg (fun e => c ((nI_z (by omega)).mpr e))] at hq
          exact ⟨Or.inr rfl, hq⟩
  · refine Or.inr ⟨_, List.mem_cons_self, fun G μ z S Q X hT hr hq => ?_, fun G μ m Q hm hq => ?_⟩
    · unfold w_X10_isFlying
      exact ⟨hT.kz, x_crow hT hr l (fun k hk e => absurd ⟨k, hk, e⟩ q) (fun _ => hq)⟩
    · unfold w_X11_isFlying w_X11_isFlying_b14 w_X11_isFlying_b43 w_X11_isFlying_b44
      refine ⟨hm.1, s_X11_isCrow hm (by omega) (fun k hk e => absurd ⟨k, hk, e⟩ q) (fun _ => ⟨fun _ => ⟨m, rfl, hm.1, hm.1, fun _ => ⟨Or.inl rfl, hq _⟩, fun c => ?_⟩, fun z => absurd rfl z⟩)⟩
      rw [sI_e] at c
      exact absurd c (by decide)
theorem q_carriedMessage (h : J B 16 v) (hB : B < 2 ^ 31) : QP v (fun G μ z Q X => w_X10_carriedMessage G μ z x Q X) (fun G μ m Q => w_X11_carriedMessage G μ m x Q) [(1, "java/lang/IndexOutOfBoundsException"), (2, "java/util/NoSuchElementException")] := by
  have l := h.1.1
  have l0 := l.1.2.1
  by_cases q : ∃ n, n < v 1 ∧ x = nI n
  · obtain ⟨n, hn, rfl⟩ := q
    have hb := h.2.2 (138 + 2 * n)
    by_cases f : v (138 + 2 * n) = 0
    · refine Or.inr ⟨_, List.mem_cons_of_mem _ List.mem_cons_self, fun G μ z S Q X hT hr hq => ?_, fun G μ m Q hm hq => ?_⟩
      · unfold w_X10_carriedMessage
        refine ⟨hT.kz, x_crow hT hr l (fun k hk e => ⟨_, rfl, hT.s1.ck (by omega), ?_⟩) (fun q => absurd rfl (q n hn))⟩
        obtain rfl := nI_inj (by omega) (by omega) e
        rw [CT_I (by omega), (hr.2.2.2.1 n hn).1, if_pos f]
        exact ⟨fun c => absurd rfl c, fun _ => hq⟩
      · unfold w_X11_carriedMessage w_X11_carriedMessage_b33 w_X11_carriedMessage_b61
        refine ⟨hm.1, s_X11_isCrow hm (by omega) (fun n2 h2 e => ⟨fun _ => ?_, fun z => absurd z (by decide)⟩) (fun q => absurd rfl (q n hn))⟩
        obtain rfl := nI_inj (by omega) (by omega) e
        rw [ix_crow]
        refine rd_s hm (by omega) ?_
        rw [cl (by omega), VT_A, f]
        refine ⟨fun _ => ⟨m, rfl, hm.1, hm.1, fun c => ?_, fun _ => hq _⟩, fun c => absurd (by decide) c⟩
        rw [sI_e] at c
        exact absurd c (by decide)
    · refine Or.inl ⟨nI (v (138 + 2 * n) - 1), fun G μ z S Q X hT hr hq => ?_, fun G μ m Q hm hq => ?_⟩
      · unfold w_X10_carriedMessage
        refine ⟨hT.kz, x_crow hT hr l (fun k hk e => ⟨_, rfl, hT.s1.ck (by omega), ?_⟩) (fun q => absurd rfl (q n hn))⟩
        obtain rfl := nI_inj (by omega) (by omega) e
        rw [CT_I (by omega), CT_I (by omega), (hr.2.2.2.1 n hn).1, if_neg f, ((hr.2.2.2.1 n hn).2 f).1]
        exact ⟨fun _ => hq, fun c => absurd c (by decide)⟩
      · unfold w_X11_carriedMessage w_X11_carriedMessage_b33 w_X11_carriedMessage_b61
        refine ⟨hm.1, s_X11_isCrow hm (by omega) (fun n2 h2 e => ⟨fun _ => ?_, fun z => absurd z (by decide)⟩) (fun q => absurd rfl (q n hn))⟩
        obtain rfl := nI_inj (by omega) (by omega) e
        rw [ix_crow]
        refine rd_s hm (by omega) ?_
        rw [cl (by omega), VT_A]
        refine ⟨fun c => absurd ((nI_z (by omega)).mp c) f, fun c => ⟨m, rfl, hm.1, hm.1, fun _ => ?_, fun c => ?_⟩⟩
        · rw [VT_sI]
          refine rd_s (MS_sI hm) (by omega) ?_
          rw [VT_A, pk_sub (by omega)]
          exact hq
        · rw [sI_e] at c
          exact absurd (by decide) c
  · refine Or.inr ⟨_, List.mem_cons_self, fun G μ z S Q X hT hr hq => ?_, fun G μ m Q hm hq => ?_⟩
    · unfold w_X10_carriedMessage
      exact ⟨hT.kz, x_crow hT hr l (fun k hk e => absurd ⟨k, hk, e⟩ q) (fun _ => hq)⟩
    · unfold w_X11_carriedMessage w_X11_carriedMessage_b33 w_X11_carriedMessage_b61
      refine ⟨hm.1, s_X11_isCrow hm (by omega) (fun k hk e => absurd ⟨k, hk, e⟩ q) (fun _ => ⟨fun z => absurd rfl z, fun _ => ⟨m, rfl, hm.1, hm.1, fun c => ?_, fun _ => hq _⟩⟩)⟩
      rw [sI_e] at c
      exact absurd c (by decide)
theorem q_flightMinutes (h : J B 16 v) (hB : B < 2 ^ 30) (hz : CrZ v) : QP v (fun G μ z Q X => w_X10_flightMinutes G μ z x Q X) (fun G μ m Q => w_X11_flightMinutes G μ m x Q) [(1, "java/lang/IndexOutOfBoundsException")] := by
  have l := h.1.1
  have l0 := l.1.2.1
  by_cases q : ∃ n, n < v 1 ∧ x = nI n
  · obtain ⟨n, hn, rfl⟩ := q
    have hb := h.2.2 (138 + 2 * n)
    refine Or.inl ⟨nI (v (138 + 2 * n + 1)), fun G μ z S Q X hT hr hq => ?_, fun G μ m Q hm hq => ?_⟩
    · unfold w_X10_flightMinutes w_X10_flightMinutes_b29
      refine ⟨hT.kz, x_crow hT hr l (fun k hk e => ⟨_, rfl, hT.s1.ck (by omega), ?_⟩) (fun q => absurd rfl (q n hn))⟩
      obtain rfl := nI_inj (by omega) (by omega) e
      rw [CT_I (by omega), (hr.2.2.2.1 n hn).1]
      by_cases f : v (138 + 2 * n) = 0
      · rw [if_pos f]
        rw [hz n hn f] at hq
        exact ⟨fun _ => hq, fun c => absurd rfl c⟩
      · rw [if_neg f]
        refine ⟨fun c => absurd c (by decide), fun _ => ⟨_, hT.z1, hT.s1.1, ?_⟩⟩
        rw [CT_I (by omega), ((hr.2.2.2.1 n hn).2 f).2, if_neg (by omega), CT_I0, hr.1.2.2.2.1, pk_sub (by omega), show v 4 + v (138 + 2 * n + 1) - 0 - v 4 = v (138 + 2 * n + 1) by omega]
        exact hq
    · unfold w_X11_flightMinutes w_X11_flightMinutes_b14 w_X11_flightMinutes_b42
      refine ⟨hm.1, s_X11_isCrow hm (by omega) (fun n2 h2 e => ⟨fun z => absurd z (by decide), fun _ => ⟨m, rfl, hm.1, hm.1, fun _ => ?_, fun c => ?_⟩⟩) (fun q => absurd rfl (q n hn))⟩
      · obtain rfl := nI_inj (by omega) (by omega) e
        rw [VT_sI, ix_crow, nI_add]
        refine rd_s (MS_sI hm) (by omega) ?_
        rw [cl (by omega), VT_A]
        exact hq
      · rw [sI_e] at c
        exact absurd (by decide) c
  · refine Or.inr ⟨_, List.mem_cons_self, fun G μ z S Q X hT hr hq => ?_, fun G μ m Q hm hq => ?_⟩
    · unfold w_X10_flightMinutes
      exact ⟨hT.kz, x_crow hT hr l (fun k hk e => absurd ⟨k, hk, e⟩ q) (fun _ => hq)⟩
    · unfold w_X11_flightMinutes w_X11_flightMinutes_b14 w_X11_flightMinutes_b42
      refine ⟨hm.1, s_X11_isCrow hm (by omega) (fun k hk e => absurd ⟨k, hk, e⟩ q) (fun _ => ⟨fun _ => ⟨m, rfl, hm.1, hm.1, fun c => ?_, fun _ => hq _⟩, fun z => absurd rfl z⟩)⟩
      rw [sI_e] at c
      exact absurd c (by decide)
end QUERY2

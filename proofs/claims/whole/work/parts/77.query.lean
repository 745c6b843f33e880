/-! QUESTIONS: both sides' answers -/
def QP {α : Type} (v : Nat → Nat) (W10 : mgT → mmT → Nat → (α → Prop) → (String → Prop) → Prop) (W11 : mgT → mmT → Nat → (α → mmT → Prop) → Prop) (ec : List (Nat × String)) : Prop :=
  (∃ r, (∀ G μ z S Q X, ST μ z → Rel S v 4 16 → Q r → W10 G (CT μ (z + 1) S) z Q X) ∧ (∀ G μ m Q, MS μ m → Q r (VT (sI μ 320 m (nI 0)) m v) → W11 G (VT μ m v) m Q)) ∨
  (∃ q, q ∈ ec ∧ (∀ G μ z S Q X, ST μ z → Rel S v 4 16 → X q.2 → W10 G (CT μ (z + 1) S) z Q X) ∧ (∀ G μ m Q, MS μ m → (∀ r, Q r (VT (sI μ 320 m (nI q.1)) m v)) → W11 G (VT μ m v) m Q))
def QB (v : Nat → Nat) (W10 : mgT → mmT → Nat → (Int32 → Prop) → (String → Prop) → Prop) (W11 : mgT → mmT → Nat → (Int32 → mmT → Prop) → Prop) (ec : List (Nat × String)) : Prop :=
  (∃ r, (r = 0 ∨ r = 1) ∧ (∀ G μ z S Q X, ST μ z → Rel S v 4 16 → Q r → W10 G (CT μ (z + 1) S) z Q X) ∧ (∀ G μ m Q, MS μ m → Q r (VT (sI μ 320 m (nI 0)) m v) → W11 G (VT μ m v) m Q)) ∨
  (∃ q, q ∈ ec ∧ (∀ G μ z S Q X, ST μ z → Rel S v 4 16 → X q.2 → W10 G (CT μ (z + 1) S) z Q X) ∧ (∀ G μ m Q, MS μ m → (∀ r, Q r (VT (sI μ 320 m (nI q.1)) m v)) → W11 G (VT μ m v) m Q))
section QUERY
variable {G : mgT} {μ ν ρ : mmT} {z a b c m i F n : Nat} {S S2 : cT} {v w : Nat → Nat} {B : Nat} {x y : Int32}
theorem sII {k k2 : Int32} : sI (sI μ F a k) F a k2 = sI μ F a k2 := by
  refine mm_ext rfl rfl ?_ rfl rfl rfl rfl rfl
  funext G b
  show (if G = F ∧ b = a then k2 else if G = F ∧ b = a then k else mI μ G b) = if G = F ∧ b = a then k2 else mI μ G b
  by_cases h : G = F ∧ b = a
  · rw [if_pos h, if_pos h]
  · rw [if_neg h, if_neg h, if_neg h]
theorem MS_sI {k : Int32} (h : MS μ m) : MS (sI μ F a k) m := h
theorem x_nest {Q : Option Nat → Prop} {X : String → Prop} (hT : ST μ z) (hr : Rel S v 4 16) (l : Lim v) (h1 : ∀ n, n < v 0 → x = nI n → Q (some (z + 1 + (5 + 3 * n)))) (h0 : (∀ n, n < v 0 → x ≠ nI n) → X "java/lang/IndexOutOfBoundsException") : w_X10_existingNest G (CT μ (z + 1) S) z x Q X :=
  ⟨hT.kz, _, hT.z1, hT.s1.1, t_nestAt hT.s1 hr.1 l.1.1 (fun n hn e => ⟨fun z => (nomatch z), fun a6 e6 => h1 n hn e⟩) (fun q => ⟨fun _ => h0 q, fun a z => (nomatch z)⟩)⟩
/-- the reference's answer about a nest -/
theorem s_askedNest {Q : Int32 → mmT → Prop} {j : Nat} (hm : MS μ m) (l : Lim v) (hj : j < 21) (h1 : ∀ n, n < v 0 → x = nI n → Q (nI (v (12 + 21 * n + j))) (VT (sI μ 320 m (nI 0)) m v)) (h0 : (∀ n, n < v 0 → x ≠ nI n) → Q (nI 0) (VT (sI μ 320 m (nI 1)) m v)) : w_X11_askedNest G (VT μ m v) m x (nI j) Q := by
  have l0 := l.1.1
  unfold w_X11_askedNest w_X11_askedNest_b14 w_X11_askedNest_b34
  refine ⟨hm.1, s_X11_isNest hm (by omega) (fun n hn e => ⟨fun z => absurd z (by decide), fun _ => ⟨m, rfl, hm.1, hm.1, fun _ => ?_, fun c => ?_⟩⟩) (fun q => ⟨fun _ => ⟨m, rfl, hm.1, hm.1, fun c => ?_, fun _ => h0 q⟩, fun z => absurd rfl z⟩)⟩
  · rw [VT_sI]
    have := h1 n hn e
    subst e
    exact s_X11_nest (MS_sI hm) (by omega) this
  · rw [sI_e] at c
    exact absurd (by decide) c
  · rw [sI_e] at c
    exact absurd c (by decide)
theorem q_nest {W10 : mgT → mmT → Nat → Int32 → (Int32 → Prop) → (String → Prop) → Prop} {W11 : mgT → mmT → Nat → Int32 → (Int32 → mmT → Prop) → Prop} {F j : Nat} (hj : j < 21) (l : Lim v)
    (h10 : ∀ G μ z x Q X, W10 G μ z x Q X = (mK μ z = 10 ∧ w_X10_existingNest G μ z x (fun ru2 => ∃ a3, ru2 = some a3 ∧ (mK μ a3 = 6 ∧ Q (mI μ F a3))) X))
    (h11 : ∀ G μ m x Q, W11 G μ m x Q = (mK μ m = 11 ∧ w_X11_askedNest G μ m x (nI j) (fun u2 μ3 => Q u2 μ3)))
    (hF : ∀ S, Rel S v 4 16 → ∀ n, n < v 0 → cF S F (5 + 3 * n) = nI (v (12 + 21 * n + j))) : QP v (fun G μ z Q X => W10 G μ z x Q X) (fun G μ m Q => W11 G μ m x Q) [(1, "java/lang/IndexOutOfBoundsException")] := by
  have l0 := l.1.1
  by_cases q : ∃ n, n < v 0 ∧ x = nI n
  · obtain ⟨n, hn, rfl⟩ := q
    refine Or.inl ⟨nI (v (12 + 21 * n + j)), fun G μ z S Q X hT hr hq => ?_, fun G μ m Q hm hq => ?_⟩
    · show W10 _ _ _ _ _ _
      rw [h10]
      refine ⟨hT.kz, x_nest hT hr l (fun k hk e => ⟨_, rfl, hT.s1.nk (by omega), ?_⟩) (fun q => absurd rfl (q n hn))⟩
      obtain rfl := nI_inj (by omega) (by omega) e
      rw [CT_I (by omega), hF S hr _ hk]
      exact hq
    · show W11 _ _ _ _ _
      rw [h11]
      refine ⟨hm.1, s_askedNest hm l hj (fun k hk e => ?_) (fun q => absurd rfl (q n hn))⟩
      obtain rfl := nI_inj (by omega) (by omega) e
      exact hq
  · refine Or.inr ⟨_, List.mem_cons_self, fun G μ z S Q X hT hr hq => ?_, fun G μ m Q hm hq => ?_⟩
    · show W10 _ _ _ _ _ _
      rw [h10]
      exact ⟨hT.kz, x_nest hT hr l (fun k hk e => absurd ⟨k, hk, e⟩ q) (fun _ => hq)⟩
    · show W11 _ _ _ _ _
      rw [h11]
      exact ⟨hm.1, s_askedNest hm l hj (fun k hk e => absurd ⟨k, hk, e⟩ q) (fun _ => hq _)⟩
theorem q_distance (l : Lim v) : QP v (fun G μ z Q X => w_X10_distance G μ z x Q X) (fun G μ m Q => w_X11_distance G μ m x Q) [(1, "java/lang/IndexOutOfBoundsException")] :=
  q_nest (F := 162) (j := 0) (by decide) l (fun _ _ _ _ _ _ => rfl) (fun _ _ _ _ _ => rfl) (fun S r n hn => (r.2.2.1 n hn).1.1)
theorem q_loss (l : Lim v) : QP v (fun G μ z Q X => w_X10_loss G μ z x Q X) (fun G μ m Q => w_X11_loss G μ m x Q) [(1, "java/lang/IndexOutOfBoundsException")] :=
  q_nest (F := 163) (j := 1) (by decide) l (fun _ _ _ _ _ _ => rfl) (fun _ _ _ _ _ => rfl) (fun S r n hn => (r.2.2.1 n hn).1.2.1)
theorem q_inboxSize (l : Lim v) : QP v (fun G μ z Q X => w_X10_inboxSize G μ z x Q X) (fun G μ m Q => w_X11_inboxSize G μ m x Q) [(1, "java/lang/IndexOutOfBoundsException")] :=
  q_nest (F := 165) (j := 2) (by decide) l (fun _ _ _ _ _ _ => rfl) (fun _ _ _ _ _ => rfl) (fun S r n hn => (r.2.2.1 n hn).1.2.2.2.1)
theorem q_rememberedCount (l : Lim v) : QP v (fun G μ z Q X => w_X10_rememberedCount G μ z x Q X) (fun G μ m Q => w_X11_rememberedCount G μ m x Q) [(1, "java/lang/IndexOutOfBoundsException")] :=
  q_nest (F := 166) (j := 11) (by decide) l (fun _ _ _ _ _ _ => rfl) (fun _ _ _ _ _ => rfl) (fun S r n hn => (r.2.2.1 n hn).1.2.2.2.2)
/-- inboxMessage -/
theorem q_inboxMessage (l : Lim v) : QP v (fun G μ z Q X => w_X10_inboxMessage G μ z x y Q X) (fun G μ m Q => w_X11_inboxMessage G μ m x y Q) [(1, "java/lang/IndexOutOfBoundsException"), (2, "java/util/NoSuchElementException")] := by
  have l0 := l.1.1
  by_cases q : ∃ n, n < v 0 ∧ x = nI n
  · obtain ⟨n, hn, rfl⟩ := q
    have s8 := (l.2.1 n hn).1
    by_cases q2 : ∃ k, k < v (12 + 21 * n + 2) ∧ y = nI k
    · obtain ⟨k, hk, rfl⟩ := q2
      refine Or.inl ⟨nI (v (12 + 21 * n + 3 + k)), fun G μ z S Q X hT hr hq => ?_, fun G μ m Q hm hq => ?_⟩
      · unfold w_X10_inboxMessage
        refine ⟨hT.kz, x_nest hT hr l (fun n2 h2 e => ⟨fun c => absurd c (nI_nneg (by omega)), fun _ => ⟨_, rfl, hT.s1.nk (by omega), ?_⟩⟩) (fun q => absurd rfl (q n hn))⟩
        obtain rfl := nI_inj (by omega) (by omega) e
        rw [CT_I (by omega), (hr.2.2.1 n hn).1.2.2.2.1]
        refine pk_lt k (v (12 + 21 * n + 2)) (fun _ => ⟨_, hT.s1.nin (by omega), hT.s1.nik (by omega), ?_, ?_⟩) (fun c => by omega)
        · rw [hT.s1.nin8 (by omega)]
          exact vp_in_nI (by omega) (by omega)
        · rw [cl (by omega), CT_A (by omega), (hr.2.2.1 n hn).2.1 k hk]
          exact hq
      · unfold w_X11_inboxMessage w_X11_inboxMessage_b34 w_X11_inboxMessage_b56
        refine ⟨hm.1, s_X11_isNest hm (by omega) (fun n2 h2 e => ⟨fun _ => ?_, fun z => absurd z (by decide)⟩) (fun q => absurd rfl (q n hn))⟩
        obtain rfl := nI_inj (by omega) (by omega) e
        refine s_X11_nest hm (by omega) (s_X11_in (fun _ _ => ⟨fun z => absurd z (by decide), fun _ => ⟨m, rfl, hm.1, hm.1, fun _ => ?_, fun c => ?_⟩⟩) (fun c => absurd (in_of_lt (by omega) hk) c))
        · rw [VT_sI, nI_add]
          refine s_X11_nest (MS_sI hm) (by omega) ?_
          rw [show 12 + 21 * n + (3 + k) = 12 + 21 * n + 3 + k by omega]
          exact hq
        · rw [sI_e] at c
          exact absurd (by decide) c
    · refine Or.inr ⟨_, List.mem_cons_of_mem _ List.mem_cons_self, fun G μ z S Q X hT hr hq => ?_, fun G μ m Q hm hq => ?_⟩
      · unfold w_X10_inboxMessage w_X10_inboxMessage_b18
        refine ⟨hT.kz, x_nest hT hr l (fun n2 h2 e => ⟨fun _ => hq, fun c0 => ⟨_, rfl, hT.s1.nk (by omega), fun c => ?_, fun _ => hq⟩⟩) (fun q => absurd rfl (q n hn))⟩
        obtain rfl := nI_inj (by omega) (by omega) e
        rw [CT_I (by omega), (hr.2.2.1 n hn).1.2.2.2.1] at c
        rcases pk_ix y (n := v (12 + 21 * n + 2)) (by omega) with w1 | w1 | w1
        · exact absurd w1 c0
        · exact absurd c (Int32.not_lt.mpr w1)
        · exact absurd w1 q2
      · unfold w_X11_inboxMessage w_X11_inboxMessage_b34 w_X11_inboxMessage_b56
        refine ⟨hm.1, s_X11_isNest hm (by omega) (fun n2 h2 e => ⟨fun _ => ?_, fun z => absurd z (by decide)⟩) (fun q => absurd rfl (q n hn))⟩
        obtain rfl := nI_inj (by omega) (by omega) e
        refine s_X11_nest hm (by omega) (s_X11_in (fun c1 c2 => absurd (lt_of_in (by omega) c1 c2) q2) (fun c => ⟨fun _ => ⟨m, rfl, hm.1, hm.1, fun c => ?_, fun _ => hq _⟩, fun z => absurd rfl z⟩))
        rw [sI_e] at c
        exact absurd c (by decide)
  · refine Or.inr ⟨_, List.mem_cons_self, fun G μ z S Q X hT hr hq => ?_, fun G μ m Q hm hq => ?_⟩
    · unfold w_X10_inboxMessage
      exact ⟨hT.kz, x_nest hT hr l (fun k hk e => absurd ⟨k, hk, e⟩ q) (fun _ => hq)⟩
    · unfold w_X11_inboxMessage w_X11_inboxMessage_b34 w_X11_inboxMessage_b56
      refine ⟨hm.1, s_X11_isNest hm (by omega) (fun k hk e => absurd ⟨k, hk, e⟩ q) (fun _ => ⟨fun z => absurd rfl z, fun _ => ⟨m, rfl, hm.1, hm.1, fun c => ?_, fun _ => hq _⟩⟩)⟩
      rw [sI_e] at c
      exact absurd c (by decide)
end QUERY

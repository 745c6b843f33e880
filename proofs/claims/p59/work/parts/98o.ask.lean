/-! QUESTIONS, AS THE LAW ASKS THEM -/
def Ak (μ : mmT) (z B : Nat) (v : Nat → Nat) : Prop := ST μ z ∧ St μ (z + 1) v ∧ JB B 2000 v ∧ 119 ≤ B ∧ B + 20000 < 2 ^ 26
section ASK
variable {G : mgT} {μ ν ρ : mmT} {z a b c m i F n k p ct : Nat} {S S2 : cT} {v w : Nat → Nat} {B : Nat} {x y : Int32} {Q : Int32 → Prop} {X : String → Prop} {V : Nat → Nat → Nat}
theorem Iv.ak (h : Iv μ z B c v ct V) (hc : c ≤ 2000) (hb : 119 ≤ B) (hb2 : B + 20000 < 2 ^ 26) : Ak μ z B v := ⟨h.1, h.2.1.1, JB_mono h.2.2.1.1 (Nat.le_refl _) hc, hb, hb2⟩
theorem Ak.j (h : Ak μ z B v) : J B 16 v := h.2.2.1.1
theorem Ak.l (h : Ak μ z B v) : Lim v := h.2.2.1.1.1.1
theorem Ak.bb (h : Ak μ z B v) : 119 ≤ B ∧ B + 20000 < 2 ^ 26 := h.2.2.2
theorem a_nest {W10 : mgT → mmT → Nat → Int32 → (Int32 → Prop) → (String → Prop) → Prop} {j : Nat} (h10 : ∀ G μ z x Q X, W10 G μ z x Q X = (mK μ z = 10 ∧ w_X10_existingNest G μ z x (fun ru2 => ∃ a3, ru2 = some a3 ∧ (mK μ a3 = 6 ∧ Q (mI μ F a3))) X)) (hF : ∀ S, Rel S v 4 16 → ∀ n, n < v 0 → cF S F (5 + 3 * n) = nI (v (12 + 21 * n + j))) (h : Ak μ z B v) (hn : n < v 0) (hq : Q (nI (v (12 + 21 * n + j)))) : W10 G μ z (nI n) Q X := by
  have h9 := h
  obtain ⟨hT, hs, -⟩ := h9
  have l := h.l
  have l0 := l.1.1
  refine wS (W := fun μ => W10 G μ z (nI n) Q X) hs (fun S hr => ?_)
  show W10 _ _ _ _ _ _
  rw [h10]
  refine ⟨hT.kz, x_nest hT hr l (fun k hk e => ⟨_, rfl, hT.s1.nk (by omega), ?_⟩) (fun q => absurd rfl (q n hn))⟩
  obtain rfl := nI_inj (by omega) (by omega) e
  rw [CT_I (by omega), hF S hr _ hk]
  exact hq
theorem a_distance (h : Ak μ z B v) (hn : n < v 0) (hq : Q (nI (v (12 + 21 * n)))) : w_L_distance G μ (some z) (nI n) Q :=
  ⟨z, rfl, h.1.kz, a_nest (F := 162) (j := 0) (fun _ _ _ _ _ _ => rfl) (fun S r n hn => (r.2.2.1 n hn).1.1) h hn hq⟩
theorem a_loss (h : Ak μ z B v) (hn : n < v 0) (hq : Q (nI (v (12 + 21 * n + 1)))) : w_L_loss G μ (some z) (nI n) Q :=
  ⟨z, rfl, h.1.kz, a_nest (F := 163) (j := 1) (fun _ _ _ _ _ _ => rfl) (fun S r n hn => (r.2.2.1 n hn).1.2.1) h hn hq⟩
theorem a_inboxSize (h : Ak μ z B v) (hn : n < v 0) (hq : Q (nI (v (12 + 21 * n + 2)))) : w_L_inboxSize G μ (some z) (nI n) Q :=
  ⟨z, rfl, h.1.kz, a_nest (F := 165) (j := 2) (fun _ _ _ _ _ _ => rfl) (fun S r n hn => (r.2.2.1 n hn).1.2.2.2.1) h hn hq⟩
theorem a_rememberedCount (h : Ak μ z B v) (hn : n < v 0) (hq : Q (nI (v (12 + 21 * n + 11)))) : w_L_rememberedCount G μ (some z) (nI n) Q :=
  ⟨z, rfl, h.1.kz, a_nest (F := 166) (j := 11) (fun _ _ _ _ _ _ => rfl) (fun S r n hn => (r.2.2.1 n hn).1.2.2.2.2) h hn hq⟩
theorem a_inboxMessage (h : Ak μ z B v) (hn : n < v 0) (hk : k < v (12 + 21 * n + 2)) (hq : Q (nI (v (12 + 21 * n + 3 + k)))) : w_L_inboxMessage G μ (some z) (nI n) (nI k) Q := by
  have h9 := h
  obtain ⟨hT, hs, -⟩ := h9
  have l := h.l
  have l0 := l.1.1
  have s8 := (l.2.1 n hn).1
  refine ⟨z, rfl, hT.kz, wS (W := fun μ => w_X10_inboxMessage G μ z (nI n) (nI k) _ _) hs (fun S hr => ?_)⟩
  unfold w_X10_inboxMessage
  refine ⟨hT.kz, x_nest hT hr l (fun n2 h2 e => ⟨fun c => absurd c (nI_nneg (by omega)), fun _ => ⟨_, rfl, hT.s1.nk (by omega), ?_⟩⟩) (fun q => absurd rfl (q n hn))⟩
  obtain rfl := nI_inj (by omega) (by omega) e
  rw [CT_I (by omega), (hr.2.2.1 n hn).1.2.2.2.1]
  refine pk_lt k (v (12 + 21 * n + 2)) (fun _ => ⟨_, hT.s1.nin (by omega), hT.s1.nik (by omega), ?_, ?_⟩) (fun c => by omega)
  · rw [hT.s1.nin8 (by omega)]
    exact vp_in_nI (by omega) (by omega)
  · rw [cl (by omega), CT_A (by omega), (hr.2.2.1 n hn).2.1 k hk]
    exact hq
theorem a_remembers (h : Ak μ z B v) (hn : n < v 0) (hq : Q (if fKnX v n y then nI 1 else nI 0)) : w_L_remembers G μ (some z) (nI n) y Q := by
  have h9 := h
  obtain ⟨hT, hs, -⟩ := h9
  have l := h.l
  have l0 := l.1.1
  refine ⟨z, rfl, hT.kz, wS (W := fun μ => w_X10_remembers G μ z (nI n) y _ _) hs (fun S hr => ?_)⟩
  unfold w_X10_remembers
  refine ⟨hT.kz, x_nest hT hr l (fun k hk e => ⟨_, rfl, hT.s1.nk (by omega), ?_⟩) (fun q => absurd rfl (q n hn))⟩
  obtain rfl := nI_inj (by omega) (by omega) e
  refine t_knowsX hT.s1 hn l hr.2.2.1 ⟨b01, ?_⟩
  by_cases c : fKnX v n y = true
  · rw [if_pos c] at hq ⊢
    exact ⟨fun e => absurd e (by decide), fun _ => hq⟩
  · rw [if_neg c] at hq ⊢
    exact ⟨fun _ => hq, fun e => absurd rfl e⟩
theorem a_nestBy (h : Ak μ z B v) (h1 : fNR v x < v 0 → Q (nI (fNR v x))) (h0 : ¬ fNR v x < v 0 → Q (-75)) : w_L_nestByDeliveries G μ (some z) x Q := by
  have h9 := h
  obtain ⟨hT, hs, -⟩ := h9
  have l := h.l
  have l0 := l.1.1
  have hB := h.bb
  refine ⟨z, rfl, hT.kz, wS (W := fun μ => w_X10_nestByDeliveries G μ z x _ _) hs (fun S hr => ?_)⟩
  unfold w_X10_nestByDeliveries
  refine ⟨hT.kz, _, hT.z1, hT.s1.1, t_nestAtRank hT.s1 hr.1 hr.2.2.1 l h.j.2.2 (by omega) ?_⟩
  by_cases q : fNR v x < v 0
  · rw [pn_y q]
    exact ⟨fun _ => h1 q, fun c => absurd c (nI_m1 (by omega))⟩
  · rw [pn_n q]
    exact ⟨fun c => absurd rfl c, fun _ => ⟨rfl, h0 q⟩⟩
/-! crows -/
theorem a_isFlying (h : Ak μ z B v) (hn : n < v 1) (hq : Q (if v (138 + 2 * n) = 0 then nI 0 else nI 1)) : w_L_isFlying G μ (some z) (nI n) Q := by
  have h9 := h
  obtain ⟨hT, hs, -⟩ := h9
  have l := h.l
  have l0 := l.1.2.1
  refine ⟨z, rfl, hT.kz, wS (W := fun μ => w_X10_isFlying G μ z (nI n) _ _) hs (fun S hr => ?_)⟩
  unfold w_X10_isFlying
  refine ⟨hT.kz, x_crow hT hr l (fun k hk e => ⟨_, rfl, hT.s1.ck (by omega), ?_⟩) (fun q => absurd rfl (q n hn))⟩
  obtain rfl := nI_inj (by omega) (by omega) e
  rw [CT_I (by omega), (hr.2.2.2.1 n hn).1]
  by_cases f : v (138 + 2 * n) = 0
  · rw [if_pos f] at hq ⊢
    exact ⟨Or.inl rfl, fun _ => hq, fun e => absurd rfl e⟩
  · rw [if_neg f] at hq ⊢
    exact ⟨Or.inr rfl, fun e => absurd e (by decide), fun _ => hq⟩
theorem a_carried (h : Ak μ z B v) (hn : n < v 1) (h0 : v (138 + 2 * n) = 0 → Q (-75)) (h1 : v (138 + 2 * n) ≠ 0 → Q (nI (v (138 + 2 * n) - 1))) : w_L_carriedMessage G μ (some z) (nI n) Q := by
  have h9 := h
  obtain ⟨hT, hs, -⟩ := h9
  have l := h.l
  have l0 := l.1.2.1
  refine ⟨z, rfl, hT.kz, wS (W := fun μ => w_X10_carriedMessage G μ z (nI n) _ _) hs (fun S hr => ?_)⟩
  unfold w_X10_carriedMessage
  refine ⟨hT.kz, x_crow hT hr l (fun k hk e => ⟨_, rfl, hT.s1.ck (by omega), ?_⟩) (fun q => absurd rfl (q n hn))⟩
  obtain rfl := nI_inj (by omega) (by omega) e
  by_cases f : v (138 + 2 * n) = 0
  · rw [CT_I (by omega), (hr.2.2.2.1 n hn).1, if_pos f]
    exact ⟨fun c => absurd rfl c, fun _ => Or.inr ⟨rfl, h0 f⟩⟩
  · rw [CT_I (by omega), CT_I (by omega), (hr.2.2.2.1 n hn).1, if_neg f, ((hr.2.2.2.1 n hn).2 f).1]
    exact ⟨fun _ => h1 f, fun c => absurd c (by decide)⟩
theorem a_flightMinutes (h : Ak μ z B v) (hn : n < v 1) (hq : Q (nI (v (138 + 2 * n + 1)))) : w_L_flightMinutes G μ (some z) (nI n) Q := by
  have h9 := h
  obtain ⟨hT, hs, hJ, hb⟩ := h9
  have l := h.l
  have l0 := l.1.2.1
  have hz := hJ.2.2.1
  have b4 := hJ.1.2.2 4
  have hb1 := hJ.1.2.2 (138 + 2 * n + 1)
  refine ⟨z, rfl, hT.kz, wS (W := fun μ => w_X10_flightMinutes G μ z (nI n) _ _) hs (fun S hr => ?_)⟩
  unfold w_X10_flightMinutes w_X10_flightMinutes_b29
  refine ⟨hT.kz, x_crow hT hr l (fun k hk e => ⟨_, rfl, hT.s1.ck (by omega), ?_⟩) (fun q => absurd rfl (q n hn))⟩
  obtain rfl := nI_inj (by omega) (by omega) e
  rw [CT_I (by omega), (hr.2.2.2.1 n hn).1]
  by_cases f : v (138 + 2 * n) = 0
  · rw [if_pos f]
    rw [hz n hn f] at hq
    exact ⟨fun _ => hq, fun c => absurd rfl c⟩
  · rw [if_neg f]
    refine ⟨fun c => absurd c (by decide), fun _ => ⟨_, hT.z1, hT.s1.1, ?_⟩⟩
    rw [CT_I (by omega), ((hr.2.2.2.1 n hn).2 f).2, if_neg (by omega), CT_I0, hr.1.2.2.2.1, pk_sub (by omega), show v 4 + v (138 + 2 * n + 1) - 0 - v 4 = v (138 + 2 * n + 1) by omega]
    exact hq
/-! messages -/
theorem a_messageAt (h : Ak μ z B v) (hp : p < v 2) (hq : Q (nI (v (146 + 7 * p)))) : w_L_messageAt G μ (some z) (nI p) Q := by
  have h9 := h
  obtain ⟨hT, hs, hJ, hb⟩ := h9
  have l := h.l
  have l2 := l.1.2.2
  refine ⟨z, rfl, hT.kz, wS (W := fun μ => w_X10_messageAt G μ z (nI p) _ _) hs (fun S hr => ?_)⟩
  unfold w_X10_messageAt
  have hc := rel_P hr l hp
  refine ⟨fun c => absurd c (nI_nneg (by omega)), fun _ => ⟨hT.kz, _, hT.z1, hT.s1.1, ?_⟩⟩
  rw [CT_I0, hr.1.2.2.1]
  refine pk_lt p (v 2) (fun _ => gm hT.s1 (by omega) (gmo hT.s1 (by omega) hc ?_)) (fun c => by omega)
  rw [CT_I (by omega), (hr.2.2.2.2.1 _ hp).1.1]
  exact hq
theorem a_msg {W10 : mgT → mmT → Nat → Int32 → (Int32 → Prop) → (String → Prop) → Prop} {j : Nat} (h10 : ∀ G μ z x Q X, W10 G μ z x Q X = (mK μ z = 10 ∧ w_X10_existingMessage G μ z x (fun ru2 => ∃ a3, ru2 = some a3 ∧ (mK μ a3 = 5 ∧ Q (mI μ F a3))) X)) (hF : ∀ S, Rel S v 4 16 → ∀ n, n < v 2 → cF S F (27 + cP S n) = nI (v (146 + 7 * n + j))) (h : Ak μ z B v) (hp : p < v 2) (hq : Q (nI (v (146 + 7 * p + j)))) : W10 G μ z (nI (v (146 + 7 * p))) Q X := by
  have h9 := h
  obtain ⟨hT, hs, hJ, hb⟩ := h9
  have l := h.l
  have hB := h.bb
  have e := fPl_of hJ.1 (by omega) hp
  refine wS (W := fun μ => W10 G μ z (nI (v (146 + 7 * p))) Q X) hs (fun S hr => ?_)
  show W10 _ _ _ _ _ _
  rw [h10]
  have hc := rel_P hr l hp
  refine ⟨hT.kz, x_msg hT hr l (fun _ => ⟨_, rfl, ?_⟩) (fun c => absurd (by rw [e]; exact hp) c)⟩
  rw [e]
  refine ⟨hT.s1.mk hc, ?_⟩
  rw [CT_I (by omega), hF S hr _ hp]
  exact hq
theorem a_nestOf (h : Ak μ z B v) (hp : p < v 2) (hq : Q (nI (v (146 + 7 * p + 1)))) : w_L_nestOf G μ (some z) (nI (v (146 + 7 * p))) Q :=
  ⟨z, rfl, h.1.kz, a_msg (F := 129) (j := 1) (fun _ _ _ _ _ _ => rfl) (fun S r n hn => (r.2.2.2.2.1 n hn).1.2.1) h hp hq⟩
theorem a_keyOf (h : Ak μ z B v) (hp : p < v 2) (hq : Q (nI (v (146 + 7 * p + 2)))) : w_L_keyOf G μ (some z) (nI (v (146 + 7 * p))) Q :=
  ⟨z, rfl, h.1.kz, a_msg (F := 130) (j := 2) (fun _ _ _ _ _ _ => rfl) (fun S r n hn => (r.2.2.2.2.1 n hn).1.2.2.1) h hp hq⟩
theorem a_attempts (h : Ak μ z B v) (hp : p < v 2) (hq : Q (nI (v (146 + 7 * p + 3)))) : w_L_attempts G μ (some z) (nI (v (146 + 7 * p))) Q :=
  ⟨z, rfl, h.1.kz, a_msg (F := 131) (j := 3) (fun _ _ _ _ _ _ => rfl) (fun S r n hn => (r.2.2.2.2.1 n hn).1.2.2.2.1) h hp hq⟩
theorem a_status (h : Ak μ z B v) (h1 : fPl v x < v 2 → Q (nI (v (146 + 7 * fPl v x + 4)))) (h0 : ¬ fPl v x < v 2 → Q (-75)) : w_L_status G μ (some z) x Q := by
  have h9 := h
  obtain ⟨hT, hs, hJ, hb⟩ := h9
  have l := h.l
  refine ⟨z, rfl, hT.kz, wS (W := fun μ => w_X10_status G μ z x _ _) hs (fun S hr => ?_)⟩
  unfold w_X10_status
  refine ⟨hT.kz, x_msg hT hr l (fun q => ⟨_, rfl, hT.s1.mk (rel_P hr l q), ?_⟩) (fun c => ⟨rfl, h0 c⟩)⟩
  have hc := rel_P hr l q
  have hs : v (146 + 7 * fPl v x + 4) < 65536 := by
    have := (hJ.1.1.2.2.1 _ q).1
    omega
  rw [CT_I (by omega), (hr.2.2.2.2.1 _ q).1.2.2.2.2]
  exact ⟨isCh_n hs, h1 q⟩
theorem a_statusP (h : Ak μ z B v) (hp : p < v 2) (hq : Q (nI (v (146 + 7 * p + 4)))) : w_L_status G μ (some z) (nI (v (146 + 7 * p))) Q := by
  have hB := h.bb
  have e := fPl_of h.j (by omega) hp
  exact a_status h (fun _ => by rw [e]; exact hq) (fun c => absurd (by rw [e]; exact hp) c)
theorem a_napMinutes (h : Ak μ z B v) (h1 : fPl v x < v 2 → v (146 + 7 * fPl v x + 4) = 110 → Q (nI (v (146 + 7 * fPl v x + 5)))) (h2 : fPl v x < v 2 → v (146 + 7 * fPl v x + 4) ≠ 110 → Q (-79)) (h0 : ¬ fPl v x < v 2 → Q (-75)) : w_L_napMinutes G μ (some z) x Q := by
  have h9 := h
  obtain ⟨hT, hs, hJ, hb⟩ := h9
  have l := h.l
  have l2 := l.1.2.2
  have b4 := hJ.1.2.2 4
  refine ⟨z, rfl, hT.kz, wS (W := fun μ => w_X10_napMinutes G μ z x _ _) hs (fun S hr => ?_)⟩
  unfold w_X10_napMinutes
  refine ⟨hT.kz, x_msg hT hr l (fun q => ⟨_, rfl, hT.s1.mk (rel_P hr l q), ?_⟩) (fun c => Or.inl ⟨rfl, h0 c⟩)⟩
  have hc := rel_P hr l q
  have b1 := hJ.1.2.2 (146 + 7 * fPl v x + 4)
  have b5 := hJ.1.2.2 (146 + 7 * fPl v x + 5)
  rw [CT_I (by omega), (hr.2.2.2.2.1 _ q).1.2.2.2.2]
  by_cases s : v (146 + 7 * fPl v x + 4) = 110
  · rw [s]
    refine ⟨fun _ => ⟨_, hT.z1, hT.s1.1, ?_⟩, fun c => absurd rfl c⟩
    rw [CT_I (by omega), CT_I0, hr.1.2.2.2.1, (hr.2.2.2.2.1 _ q).2 s, if_neg (by omega), pk_sub (by omega), show v 4 + v (146 + 7 * fPl v x + 5) - 0 - v 4 = v (146 + 7 * fPl v x + 5) by omega]
    exact h1 q s
  · exact ⟨fun e => absurd (nI_inj (by omega) (by decide) e) s, fun _ => Or.inr ⟨rfl, h2 q s⟩⟩
theorem a_napP (h : Ak μ z B v) (hp : p < v 2) (h1 : v (146 + 7 * p + 4) = 110 → Q (nI (v (146 + 7 * p + 5)))) (h2 : v (146 + 7 * p + 4) ≠ 110 → Q (-79)) : w_L_napMinutes G μ (some z) (nI (v (146 + 7 * p))) Q := by
  have hB := h.bb
  have e := fPl_of h.j (by omega) hp
  exact a_napMinutes h (fun _ => by rw [e]; exact h1) (fun _ => by rw [e]; exact h2) (fun c => absurd (by rw [e]; exact hp) c)
theorem a_waiting (h : Ak μ z B v) (h1 : fWaiting v x < v 2 → Q (nI (v (146 + 7 * fWaiting v x)))) (h0 : ¬ fWaiting v x < v 2 → Q (-75)) : w_L_waitingMessage G μ (some z) x Q := by
  have h9 := h
  obtain ⟨hT, hs, hJ, hb⟩ := h9
  have l := h.l
  have ht : ∀ p, p < v 2 → v (146 + 7 * p + 4) = 119 → v (146 + 7 * p + 3) ≤ 4 := fun p hp e => (hJ.1.1.2.2.1 p hp).2.1 (by omega)
  refine ⟨z, rfl, hT.kz, wS (W := fun μ => w_X10_waitingMessage G μ z x _ _) hs (fun S hr => ?_)⟩
  unfold w_X10_waitingMessage
  refine ⟨hT.kz, _, hT.z1, hT.s1.1, t_waiting hT.s1 l hr.1 hr.2.2.2.2.1 hr.2.2.2.2.2.1 hJ.1.2.2 (by omega) ht ?_⟩
  by_cases q : fWaiting v x < v 2
  · have hc := rel_P hr l q
    rw [if_pos q]
    refine ⟨fun z => (nomatch z), fun a6 e6 => ?_⟩
    cases e6
    refine ⟨hT.s1.mk hc, ?_⟩
    rw [CT_I (by omega), (hr.2.2.2.2.1 _ q).1.1]
    exact h1 q
  · rw [if_neg q]
    exact ⟨fun _ => ⟨rfl, h0 q⟩, fun a z => (nomatch z)⟩
theorem a_lost (h : Ak μ z B v) (hp : p < v 2) (h1 : v (146 + 7 * p + 4) = 100 → Q (-79)) (h2 : v (146 + 7 * p + 4) ≠ 100 → Q (if fLost v p (v (146 + 7 * p + 3) + 1) then nI 1 else nI 0)) : w_L_wouldBeLost G μ (some z) (nI (v (146 + 7 * p))) Q := by
  have h9 := h
  obtain ⟨hT, hs, hJ, hb⟩ := h9
  have l := h.l
  have l2 := l.1.2.2
  have l0 := l.1.1
  have e := fPl_of hJ.1 (by omega) hp
  have b1 := hJ.1.2.2 (146 + 7 * p + 4)
  have m5 := (hJ.1.1.2.2.1 _ hp).2.2.1
  have hn := l.2.2 _ hp
  refine ⟨z, rfl, hT.kz, wS (W := fun μ => w_X10_wouldBeLost G μ z (nI (v (146 + 7 * p))) _ _) hs (fun S hr => ?_)⟩
  unfold w_X10_wouldBeLost
  have hc := rel_P hr l hp
  have er := (hr.2.2.2.2.1 _ hp).1
  refine ⟨hT.kz, x_msg hT hr l (fun _ => ⟨_, rfl, ?_⟩) (fun c => absurd (by rw [e]; exact hp) c)⟩
  rw [e]
  refine ⟨hT.s1.mk hc, ?_⟩
  rw [CT_I (by omega), er.2.2.2.2]
  by_cases s : v (146 + 7 * p + 4) = 100
  · rw [s]
    exact ⟨fun c => absurd rfl c, fun _ => Or.inr ⟨rfl, h1 s⟩⟩
  · have hq := h2 s
    rw [CT_I (by omega), er.2.2.2.1, nI_add]
    refine ⟨fun _ => ⟨_, hT.z1, hT.s1.1, t_isLost hT.s1 l hr.1 hr.2.2.1 hp hc ⟨er.1, er.2.1⟩ hJ.1.2.2 (by omega) (by omega) ⟨b01, ?_⟩⟩, fun e => absurd (nI_inj (by omega) (by decide) e) s⟩
    by_cases c : fLost v p (v (146 + 7 * p + 3) + 1) = true
    · rw [if_pos c] at hq ⊢
      exact ⟨fun e => absurd e (by decide), fun _ => hq⟩
    · rw [if_neg c] at hq ⊢
      exact ⟨fun _ => hq, fun e => absurd rfl e⟩
theorem a_napLength {Q : Int64 → Prop} (h : Ak μ z B v) (hk : k ≤ 40) (hq : Q (lN (2 ^ k))) : w_L_napLength G μ (some z) (nI k) Q := by
  refine ⟨z, rfl, h.1.kz, ?_⟩
  unfold w_X10_napLength w_X10_shiftedNap
  refine ⟨fun c => absurd c (nI_nneg (by omega)), fun _ => ⟨fun _ => ?_, fun c => absurd (nI_le hk (by omega)) c⟩⟩
  rw [shl_n hk]
  exact hq
theorem a_napDoubling {Q : Int64 → Prop} (h : Ak μ z B v) (hk : k ≤ 40) (hq : Q (lN (2 ^ k))) : w_L_napLengthByDoubling G μ (some z) (nI k) Q := by
  refine ⟨z, rfl, h.1.kz, ?_⟩
  unfold w_X10_napLengthByDoubling
  exact ⟨fun c => absurd c (nI_nneg (by omega)), fun _ => ⟨fun _ => t_doubledNap hk hq, fun c => absurd (nI_le hk (by omega)) c⟩⟩
/-! counts -/
theorem a_cnt {W10 : mgT → mmT → Nat → (Int32 → Prop) → Prop} (hs : St μ (z + 1) v) (k : ∀ S, Rel S v 4 16 → W10 G (CT μ (z + 1) S) z Q) : W10 G μ z Q := wS (W := fun μ => W10 G μ z Q) hs k
theorem a_nestCount (h : Ak μ z B v) (hq : Q (nI (v 0))) : w_X10_nestCount G μ z Q :=
  a_cnt (W10 := w_X10_nestCount) h.2.1 (fun S hr => ⟨h.1.kz, _, h.1.z1, h.1.s1.1, by rw [CT_I0, hr.1.1]; exact hq⟩)
theorem a_crowCount (h : Ak μ z B v) (hq : Q (nI (v 1))) : w_X10_crowCount G μ z Q :=
  a_cnt (W10 := w_X10_crowCount) h.2.1 (fun S hr => ⟨h.1.kz, _, h.1.z1, h.1.s1.1, by rw [CT_I0, hr.1.2.1]; exact hq⟩)
theorem a_messageCount (h : Ak μ z B v) (hq : Q (nI (v 2))) : w_X10_messageCount G μ z Q :=
  a_cnt (W10 := w_X10_messageCount) h.2.1 (fun S hr => ⟨h.1.kz, _, h.1.z1, h.1.s1.1, by rw [CT_I0, hr.1.2.2.1]; exact hq⟩)
theorem a_time (h : Ak μ z B v) (hq : Q (nI (v 4))) : w_X10_time G μ z Q :=
  a_cnt (W10 := w_X10_time) h.2.1 (fun S hr => ⟨h.1.kz, _, h.1.z1, h.1.s1.1, by rw [CT_I0, hr.1.2.2.2.1]; exact hq⟩)
theorem a_wind (h : Ak μ z B v) (hq : Q (nI (v 5))) : w_X10_wind G μ z Q :=
  a_cnt (W10 := w_X10_wind) h.2.1 (fun S hr => ⟨h.1.kz, _, h.1.z1, h.1.s1.1, by rw [CT_I0, hr.1.2.2.2.2]; exact hq⟩)
theorem a_publishedTotal (h : Ak μ z B v) (hq : Q (nI (v 3))) : w_X10_publishedTotal G μ z Q :=
  a_cnt (W10 := w_X10_publishedTotal) h.2.1 (fun S hr => ⟨h.1.kz, _, h.1.z1, h.1.s1.1, gt h.1.s1 (by rw [CT_I (by decide), hr.2.1.1]; exact hq)⟩)
theorem a_deliveredTotal (h : Ak μ z B v) (hq : Q (nI (v 6))) : w_X10_deliveredTotal G μ z Q :=
  a_cnt (W10 := w_X10_deliveredTotal) h.2.1 (fun S hr => ⟨h.1.kz, _, h.1.z1, h.1.s1.1, gt h.1.s1 (by rw [CT_I (by decide), hr.2.1.2.1]; exact hq)⟩)
theorem a_readTotal (h : Ak μ z B v) (hq : Q (nI (v 7))) : w_X10_readTotal G μ z Q :=
  a_cnt (W10 := w_X10_readTotal) h.2.1 (fun S hr => ⟨h.1.kz, _, h.1.z1, h.1.s1.1, gt h.1.s1 (by rw [CT_I (by decide), hr.2.1.2.2.1]; exact hq)⟩)
theorem a_duplicateTotal (h : Ak μ z B v) (hq : Q (nI (v 8))) : w_X10_duplicateTotal G μ z Q :=
  a_cnt (W10 := w_X10_duplicateTotal) h.2.1 (fun S hr => ⟨h.1.kz, _, h.1.z1, h.1.s1.1, gt h.1.s1 (by rw [CT_I (by decide), hr.2.1.2.2.2.1]; exact hq)⟩)
theorem a_failedTotal (h : Ak μ z B v) (hq : Q (nI (v 9))) : w_X10_failedTotal G μ z Q :=
  a_cnt (W10 := w_X10_failedTotal) h.2.1 (fun S hr => ⟨h.1.kz, _, h.1.z1, h.1.s1.1, gt h.1.s1 (by rw [CT_I (by decide), hr.2.1.2.2.2.2.1]; exact hq)⟩)
theorem a_arrivalTotal (h : Ak μ z B v) (hq : Q (nI (v 10))) : w_X10_arrivalTotal G μ z Q :=
  a_cnt (W10 := w_X10_arrivalTotal) h.2.1 (fun S hr => ⟨h.1.kz, _, h.1.z1, h.1.s1.1, gt h.1.s1 (by rw [CT_I (by decide), hr.2.1.2.2.2.2.2.2]; exact hq)⟩)
theorem a_byTotals (h : Ak μ z B v) (hq : Q (nI (v 2))) : w_X10_messageCountByTotals G μ z Q :=
  a_cnt (W10 := w_X10_messageCountByTotals) h.2.1 (fun S hr => ⟨h.1.kz, _, h.1.z1, h.1.s1.1, gt h.1.s1 (t_existing h.1.s1 hr h.j hq)⟩)
theorem a_isConsistent (h : Ak μ z B v) (hq : Q (nI 1)) : w_X10_isConsistent G μ z Q := by
  have hB := h.bb
  exact a_cnt (W10 := w_X10_isConsistent) h.2.1 (fun S hr => t_isConsistent h.1 hr h.j (by omega) hq)
end ASK

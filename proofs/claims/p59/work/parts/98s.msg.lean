/-! THE LAW'S LOOK AT ONE MESSAGE -/
section MSG
variable {G : mgT} {μ ν ρ : mmT} {z c m i F n k p ct cc : Nat} {v w : Nat → Nat} {B : Nat} {x y x6 x7 x8 : Int32} {V : Nat → Nat → Nat} {Q : Int32 → mmT → Prop}
/-- what holds while it is looked at -/
def Lk (Q : Int32 → mmT → Prop) (μ : mmT) (z B c : Nat) (v : Nat → Nat) (ct : Nat) (V : Nat → Nat → Nat) : Prop := Iv μ z B c v ct V ∧ c ≤ 2000 ∧ 119 ≤ B ∧ B + 20000 < 2 ^ 26 ∧ ∀ ν, Kp z μ ν → Iv ν z B c v ct V → Q (nI 1) ν
theorem Lk.ak (h : Lk Q μ z B c v ct V) : Ak μ z B v := h.1.ak h.2.1 h.2.2.1 h.2.2.2.1
theorem Lk.q0 (h : Lk Q μ z B c v ct V) : Q (nI 1) μ := h.2.2.2.2 μ Kp_rf h.1
theorem Lk.ee (h : Lk Q μ z B c v ct V) : EE v := h.1.2.2.1.1.2.2.2
theorem tld_d (hj : J B 16 v) (hB : B < 2 ^ 31) (hp : p < v 2) (s : v (146 + 7 * p + 4) = 100) : tld v (nI (v (146 + 7 * p))) = -79 := by
  unfold tld
  rw [fPl_of hj hB hp, if_pos hp, if_pos s]
theorem m463 (h : Lk Q μ z B c v ct V) (hp : p < v 2) : w_L_isMessage_b463 G Q (some z) (nI (v (146 + 7 * p))) (nI (v (146 + 7 * p + 4))) μ := by
  have ak := h.ak
  have hj := ak.j
  have hB := ak.bb
  have idl := hj.1.2.1.1 p hp
  have b3 := hj.2.2 3
  have ky := (hj.1.2.2.1 p hp).2.2.2.1
  have st := (hj.1.2.2.1 p hp).1
  unfold w_L_isMessage_b463
  refine ⟨z, rfl, ak.1.kz, a_publishedTotal ak (pk_le (v 3) (v (146 + 7 * p)) (fun c => by omega) (fun _ => a_keyOf ak hp ⟨fun c => absurd c (nI_nneg (by omega)), fun _ => a_keyOf ak hp (pk_lt 99 (v (146 + 7 * p + 2)) (fun c => by omega) (fun _ => ⟨fun _ => ⟨Or.inr rfl, h.q0⟩, fun e => l_until h.1 hB.1 hB.2 (fun ν k i => ⟨fun c => absurd (tld_d hj (by omega) hp (nI_inj (by omega) (by decide) e)) c, fun _ => ⟨Or.inr rfl, h.2.2.2.2 ν k i⟩⟩)⟩))⟩))⟩
theorem m439 (h : Lk Q μ z B c v ct V) (hp : p < v 2) (hs : n ≤ v (146 + 7 * p + 3)) : w_L_isMessage_b439 G Q (some z) (nI p) (nI (v (146 + 7 * p))) (nI (v (146 + 7 * p + 4))) (nI (v (146 + 7 * p + 3))) (nI (v (146 + 7 * p + 3))) (nI n) μ := by
  have ak := h.ak
  have hj := ak.j
  have hB := ak.bb
  have l2 := ak.l.1.2.2
  have idl := hj.2.2 (146 + 7 * p)
  have t5 := (hj.1.2.2.1 p hp).2.2.1
  unfold w_L_isMessage_b439
  refine pk_lt (v (146 + 7 * p + 3)) n (fun c => by omega) (fun _ => pk_lt 5 (v (146 + 7 * p + 3)) (fun c => by omega) (fun _ => ⟨fun _ => m463 h hp, fun e => ?_⟩))
  have p0 : p ≠ 0 := fun z => e (by rw [z]; rfl)
  rw [pk_sub (by omega)]
  have hi := hj.1.2.1.2 (p - 1) p (by omega) hp
  exact a_messageAt ak (show p - 1 < v 2 by omega) (pk_le (v (146 + 7 * p)) (v (146 + 7 * (p - 1))) (fun c => by omega) (fun _ => m463 h hp))
theorem m398 (h : Lk Q μ z B c v ct V) (hp : p < v 2) : w_L_isMessage_b398 G Q (some z) (nI p) (nI (v (146 + 7 * p))) (nI (v (146 + 7 * p + 4))) (nI (v (146 + 7 * p + 3))) (nI 1) (nI 1) (nI 1) μ := by
  have ak := h.ak
  have hj := ak.j
  have st := (hj.1.2.2.1 p hp).1
  have en := (h.ee.1 p hp).2
  unfold w_L_isMessage_b398 w_L_isMessage_b403
  refine ⟨fun e => absurd e (by decide), fun _ => ⟨fun e => absurd e (by decide), fun _ => ⟨fun e => absurd e (by decide), fun _ => ⟨fun e => absurd e (by decide), fun _ => ⟨fun _ => m439 (n := 0) h hp (Nat.zero_le _), fun e => m439 (n := 1) h hp (en (nI_inj (by omega) (by decide) e))⟩⟩⟩⟩⟩
/-- its crow, if it flies -/
def Cw (v : Nat → Nat) (p : Nat) (x7 : Int32) : Prop := (x7 < 0 → v (146 + 7 * p + 4) ≠ 102) ∧ (¬ x7 < 0 → ∃ c, c < v 1 ∧ x7 = nI c ∧ v (138 + 2 * c) = v (146 + 7 * p) + 1)
theorem m365 (h : Lk Q μ z B c v ct V) (hp : p < v 2) (hc : Cw v p x7) : w_L_isMessage_b365 G Q (some z) (nI p) (nI (v (146 + 7 * p))) (nI (v (146 + 7 * p + 1))) (nI (v (146 + 7 * p + 4))) (nI (v (146 + 7 * p + 3))) x7 (nI 1) (nI 1) (nI 1) μ := by
  have ak := h.ak
  have hj := ak.j
  have hB := ak.bb
  unfold w_L_isMessage_b365
  refine ⟨fun _ => m398 h hp, fun e => ?_⟩
  obtain ⟨c, c1, rfl, c3⟩ := hc.2 e
  have m := (cr_not hj.1 hp c1 c3).2
  have f := h.ee.2.1 c p c1 hp c3
  have hn := ak.l.2.2 p hp
  have b1 := hj.2.2 (138 + 2 * c + 1)
  have b2 := hj.2.2 (12 + 21 * v (146 + 7 * p + 1))
  refine a_flightMinutes ak c1 (pk_lt (v (138 + 2 * c + 1)) 1 (fun c => by omega) (fun _ => a_flightMinutes ak c1 (a_distance ak hn ?_)))
  rw [nI_add]
  exact pk_lt (v (12 + 21 * v (146 + 7 * p + 1)) + 1) (v (138 + 2 * c + 1)) (fun c => by omega) (fun _ => m398 h hp)
theorem m298 (h : Lk Q μ z B c v ct V) (hp : p < v 2) (hc : Cw v p x7) : w_L_isMessage_b298 G Q (some z) (nI p) (nI (v (146 + 7 * p))) (nI (v (146 + 7 * p + 1))) (nI (v (146 + 7 * p + 4))) (nI (v (146 + 7 * p + 3))) x7 (nI 1) (nI 1) μ := by
  have ak := h.ak
  have hj := ak.j
  have hB := ak.bb
  have st := (hj.1.2.2.1 p hp).1
  have hn := ak.l.2.2 p hp
  have l4 := (ak.l.2.1 _ hn).2.2.2.2
  have b0 := hj.2.2 (146 + 7 * p)
  have b3 := hj.2.2 (146 + 7 * p + 3)
  have b5 := hj.2.2 5
  unfold w_L_isMessage_b298
  refine a_lost ak hp (fun s => ⟨fun e => absurd (by rw [s]) e, fun _ => ⟨fun e => absurd rfl e, fun _ => m365 h hp hc⟩⟩) (fun s => ⟨fun _ => ⟨z, rfl, ak.1.kz, a_wind ak (a_loss ak hn ?_)⟩, fun e => absurd (nI_inj (by omega) (by decide) e) s⟩)
  rw [nI_add, nI_add, nI_add, pk_rem (by omega) (by decide) (by decide)]
  have ef : fLost v p (v (146 + 7 * p + 3) + 1) = decide ((v (146 + 7 * p) + (v (146 + 7 * p + 3) + 1) + v 5) % 5 < v (12 + 21 * v (146 + 7 * p + 1) + 1)) := rfl
  have md : (v (146 + 7 * p) + v (146 + 7 * p + 3) + 1 + v 5) % 5 < 5 := Nat.mod_lt _ (by decide)
  rw [ef]
  rw [show v (146 + 7 * p) + (v (146 + 7 * p + 3) + 1) + v 5 = v (146 + 7 * p) + v (146 + 7 * p + 3) + 1 + v 5 by omega]
  generalize (v (146 + 7 * p) + v (146 + 7 * p + 3) + 1 + v 5) % 5 = M at *
  refine pk_le (v (12 + 21 * v (146 + 7 * p + 1) + 1)) M (fun c => ?_) (fun c => ?_)
  · rw [decide_eq_false (by omega), if_neg (by decide)]
    exact ⟨fun e => absurd rfl e, fun _ => m365 h hp hc⟩
  · rw [decide_eq_true c, if_pos rfl]
    exact ⟨fun e => absurd rfl e, fun _ => m365 h hp hc⟩
theorem lg_le {a b : Nat} (h : a ≤ b) (hb : b < 2 ^ 63) : ¬ 0 < lg_cmp (lN a) (lN b) := by
  unfold lg_cmp
  rw [if_neg (fun q : lN a > lN b => by
    have := (pk_lLT hb (Nat.lt_of_le_of_lt h hb)).mp q
    omega)]
  split <;> decide
theorem m256 (h : Lk Q μ z B c v ct V) (hp : p < v 2) (hc : Cw v p x7) : w_L_isMessage_b256 G Q (some z) (nI p) (nI (v (146 + 7 * p))) (nI (v (146 + 7 * p + 1))) (nI (v (146 + 7 * p + 4))) (nI (v (146 + 7 * p + 3))) x7 (nI 1) μ := by
  have ak := h.ak
  have hj := ak.j
  have hB := ak.bb
  have ms := hj.1.2.2.1 p hp
  have en := (h.ee.1 p hp).1
  have b5 := hj.2.2 (146 + 7 * p + 5)
  unfold w_L_isMessage_b256 w_L_isMessage_b293
  refine ⟨fun _ => m298 h hp hc, fun e => ?_⟩
  have s : v (146 + 7 * p + 4) = 110 := nI_inj (by omega) (by decide) e
  have t4 := ms.2.1 (by omega)
  obtain ⟨e1, e2⟩ := en s
  have p2 : 2 ^ v (146 + 7 * p + 3) < 2 ^ 63 := Nat.pow_lt_pow_right (by decide) (by omega)
  refine pk_lt (v (146 + 7 * p + 3)) 1 (fun c => by omega) (fun _ => pk_le 5 (v (146 + 7 * p + 3)) (fun c => by omega) (fun _ => a_napP ak hp (fun _ => a_napLength ak (by omega) ?_) (fun c => absurd s c)))
  rw [nI_l (by omega)]
  exact ⟨fun c => absurd c (lg_le e2 p2), fun _ => m298 h hp hc⟩
/-- its place and its rank -/
def At (v : Nat → Nat) (p : Nat) (x6 : Int32) : Prop := (x6 < 0 → v (146 + 7 * p + 4) ≠ 100) ∧ (¬ x6 < 0 → v (146 + 7 * p + 4) = 100)
def Rn1 (v : Nat → Nat) (p : Nat) (x8 : Int32) : Prop := (x8 < 0 → v (146 + 7 * p + 4) ≠ 119) ∧ (¬ x8 < 0 → v (146 + 7 * p + 4) = 119)
theorem Cw.s (h : J B 16 v) (hp : p < v 2) (hc : Cw v p x7) (e : ¬ x7 < 0) : v (146 + 7 * p + 4) = 102 := by
  obtain ⟨c, c1, -, c3⟩ := hc.2 e
  exact (cr_not h.1 hp c1 c3).1
theorem m160 (h : Lk Q μ z B c v ct V) (hp : p < v 2) (ha : At v p x6) (hc : Cw v p x7) (hr : Rn1 v p x8) (s0 : Int32) (e0 : v (146 + 7 * p + 4) = 100 → s0 = nI 1) (e1 : v (146 + 7 * p + 4) ≠ 100 → s0 = nI 0) : w_L_isMessage_b160 G Q (some z) (nI p) (nI (v (146 + 7 * p))) (nI (v (146 + 7 * p + 1))) (nI (v (146 + 7 * p + 4))) (nI (v (146 + 7 * p + 3))) x6 x7 x8 s0 μ := by
  have ak := h.ak
  have hj := ak.j
  have hB := ak.bb
  have ms := hj.1.2.2.1 p hp
  have b4 := hj.2.2 (146 + 7 * p + 4)
  have b5 := hj.2.2 (146 + 7 * p + 5)
  have n01 : ¬ nI 0 = nI 1 := by decide
  have n10 : ¬ nI 1 = nI 0 := by decide
  have m235 : ∀ s0 : Int32, (v (146 + 7 * p + 4) = 110 → s0 = nI 1) → (v (146 + 7 * p + 4) ≠ 110 → s0 = nI 0) → w_L_isMessage_b235 G Q (some z) (nI p) (nI (v (146 + 7 * p))) (nI (v (146 + 7 * p + 1))) (nI (v (146 + 7 * p + 4))) (nI (v (146 + 7 * p + 3))) x7 s0 μ := fun s0 e0 e1 => by
    unfold w_L_isMessage_b235 w_L_isMessage_b248
    refine a_napP ak hp (fun s => ?_) (fun s => ?_)
    · rw [e0 s]
      have n1 := ms.2.2.2.2.1 s
      exact pk_le (v (146 + 7 * p + 5)) 0 (fun c => by omega) (fun _ => ⟨fun c => absurd rfl c, fun _ => m256 h hp hc⟩)
    · rw [e1 s]
      exact ⟨fun _ => ⟨fun c => absurd rfl c, fun _ => m256 h hp hc⟩, fun c => absurd (by decide) c⟩
  have m220 : ∀ s, w_L_isMessage_b220 G Q (some z) (nI p) (nI (v (146 + 7 * p))) (nI (v (146 + 7 * p + 1))) (nI (v (146 + 7 * p + 4))) (nI (v (146 + 7 * p + 3))) x7 s s μ := fun s => by
    unfold w_L_isMessage_b220
    exact ⟨fun c => absurd rfl c, fun _ => ⟨fun e => m235 _ (fun s => absurd (by rw [s]) e) (fun _ => rfl), fun e => m235 _ (fun _ => rfl) (fun s => absurd (nI_inj (by omega) (by decide) e) s)⟩⟩
  have m210 : ∀ s0 : Int32, (v (146 + 7 * p + 4) = 119 → s0 = nI 1) → (v (146 + 7 * p + 4) ≠ 119 → s0 = nI 0) → w_L_isMessage_b210 G Q (some z) (nI p) (nI (v (146 + 7 * p))) (nI (v (146 + 7 * p + 1))) (nI (v (146 + 7 * p + 4))) (nI (v (146 + 7 * p + 3))) x7 x8 s0 μ := fun s0 e0 e1 => by
    unfold w_L_isMessage_b210
    exact ⟨fun c => by rw [e1 (hr.1 c)]; exact m220 _, fun c => by rw [e0 (hr.2 c)]; exact m220 _⟩
  have m195 : ∀ s, w_L_isMessage_b195 G Q (some z) (nI p) (nI (v (146 + 7 * p))) (nI (v (146 + 7 * p + 1))) (nI (v (146 + 7 * p + 4))) (nI (v (146 + 7 * p + 3))) x7 x8 s s μ := fun s => by
    unfold w_L_isMessage_b195
    exact ⟨fun c => absurd rfl c, fun _ => ⟨fun e => m210 _ (fun s => absurd (by rw [s]) e) (fun _ => rfl), fun e => m210 _ (fun _ => rfl) (fun s => absurd (nI_inj (by omega) (by decide) e) s)⟩⟩
  have m185 : ∀ s0 : Int32, (v (146 + 7 * p + 4) = 102 → s0 = nI 1) → (v (146 + 7 * p + 4) ≠ 102 → s0 = nI 0) → w_L_isMessage_b185 G Q (some z) (nI p) (nI (v (146 + 7 * p))) (nI (v (146 + 7 * p + 1))) (nI (v (146 + 7 * p + 4))) (nI (v (146 + 7 * p + 3))) x7 x8 s0 μ := fun s0 e0 e1 => by
    unfold w_L_isMessage_b185
    exact ⟨fun c => by rw [e1 (hc.1 c)]; exact m195 _, fun c => by rw [e0 (hc.s hj hp c)]; exact m195 _⟩
  have m170 : ∀ s, w_L_isMessage_b170 G Q (some z) (nI p) (nI (v (146 + 7 * p))) (nI (v (146 + 7 * p + 1))) (nI (v (146 + 7 * p + 4))) (nI (v (146 + 7 * p + 3))) x7 x8 s s μ := fun s => by
    unfold w_L_isMessage_b170
    exact ⟨fun c => absurd rfl c, fun _ => ⟨fun e => m185 _ (fun s => absurd (by rw [s]) e) (fun _ => rfl), fun e => m185 _ (fun _ => rfl) (fun s => absurd (nI_inj (by omega) (by decide) e) s)⟩⟩
  unfold w_L_isMessage_b160
  exact ⟨fun c => by rw [e1 (ha.1 c)]; exact m170 _, fun c => by rw [e0 (ha.2 c)]; exact m170 _⟩
/-- the ranks are gone through -/
theorem m114 (h : Lk Q μ z B c v ct V) (hp : p < v 2) (ha : At v p x6) (hc : Cw v p x7) (hm : m ≤ v 2) (h1 : ∀ q, q < m → ∃ i, Wt v q i) (h2 : ∀ q, m ≤ q → ∀ i, ¬ Wt v q i) : ∀ d q x8, q + d = m → (x8 < 0 → ∀ r, r < q → ¬ Wt v r p) → (¬ x8 < 0 → v (146 + 7 * p + 4) = 119) → w_L_isMessage_l114 G Q (d + 1) (some z) (nI p) (nI (v (146 + 7 * p))) (nI (v (146 + 7 * p + 1))) (nI (v (146 + 7 * p + 4))) (nI (v (146 + 7 * p + 3))) x6 x7 x8 (nI q) q μ := by
  have ak := h.ak
  have hj := ak.j
  have hB := ak.bb
  have l2 := ak.l.1.2.2
  have b4 := hj.2.2 (146 + 7 * p + 4)
  intro d
  induction d with
  | zero =>
    intro q x8 hq i1 i2
    show w_L_isMessage_b114 G Q _ _ _ _ _ _ _ _ _ _ _ _ _
    unfold w_L_isMessage_b114
    have e := wt_no l2 (show q < 2 ^ 31 by omega) (h2 q (by omega))
    have hr : Rn1 v p x8 := ⟨fun c s => by
      have hw : Wt v (fAhead v p) p := ⟨hp, s, rfl⟩
      by_cases z : fAhead v p < q
      · exact i1 c _ z hw
      · exact h2 _ (by omega) p hw, i2⟩
    exact ⟨by omega, a_waiting ak (fun z => by omega) (fun _ => ⟨fun _ => ⟨fun e => m160 h hp ha hc hr _ (fun s => absurd (by rw [s]) e) (fun _ => rfl), fun e => m160 h hp ha hc hr _ (fun _ => rfl) (fun s => absurd (nI_inj (by omega) (by decide) e) s)⟩, fun c => absurd (by decide) c⟩)⟩
  | succ d ih =>
    intro q x8 hq i1 i2
    show w_L_isMessage_b114 G Q _ _ _ _ _ _ _ _ _ _ _ _ _
    unfold w_L_isMessage_b114 w_L_isMessage_b140
    obtain ⟨i, hi⟩ := h1 q (by omega)
    have e := wt_yes l2 hi
    have i2l := hi.1
    have bi := hj.2.2 (146 + 7 * i)
    have bp := hj.2.2 (146 + 7 * p)
    refine ⟨by omega, a_waiting ak (fun _ => ?_) (fun z => by omega)⟩
    rw [e]
    refine ⟨fun c => absurd c (nI_nneg (by omega)), fun _ => a_waiting ak (fun _ => ?_) (fun z => by omega)⟩
    rw [e, nI_add]
    refine ⟨fun ne => ⟨by omega, ih (q + 1) x8 (by omega) (fun c r hr => ?_) i2⟩, fun eq => ⟨by omega, ih (q + 1) (nI q) (by omega) (fun c => absurd c (nI_nneg (by omega))) (fun _ => ?_)⟩⟩
    · by_cases z : r = q
      · subst z
        exact fun w => ne (by rw [Wt_inj hi w])
      · exact i1 c r (by omega)
    · have := hj.1.id hi.1 hp (nI_inj (by omega) (by omega) eq)
      rw [← this]
      exact hi.2.1
/-- the crows are gone through -/
theorem m74 (h : Lk Q μ z B c v ct V) (hp : p < v 2) (ha : At v p x6) : ∀ d cc x7, cc + d = v 1 → (x7 < 0 → ∀ r, r < cc → v (138 + 2 * r) ≠ v (146 + 7 * p) + 1) → (¬ x7 < 0 → ∃ c, c < v 1 ∧ x7 = nI c ∧ v (138 + 2 * c) = v (146 + 7 * p) + 1) → w_L_isMessage_l74 G Q (d + 1) (some z) (nI p) (nI (v (146 + 7 * p))) (nI (v (146 + 7 * p + 1))) (nI (v (146 + 7 * p + 4))) (nI (v (146 + 7 * p + 3))) x6 x7 (nI cc) cc μ := by
  have ak := h.ak
  have hj := ak.j
  have hB := ak.bb
  have l1 := ak.l.1.2.1
  intro d
  induction d with
  | zero =>
    intro cc x7 hq i1 i2
    show w_L_isMessage_b74 G Q _ _ _ _ _ _ _ _ _ _ _ _
    unfold w_L_isMessage_b74
    have hc : Cw v p x7 := ⟨fun c s => by
      obtain ⟨k, k1, k2⟩ := cr_has hj.1 hp s
      exact i1 c k (by omega) k2, i2⟩
    obtain ⟨m, hm, h1, h2⟩ := wt_m v ak.l.1.2.2
    exact ⟨by omega, z, rfl, ak.1.kz, a_crowCount ak (pk_le (v 1) cc (fun _ => ⟨m + 1, m114 h hp ha hc hm h1 h2 m 0 (-1) (Nat.zero_add _) (fun _ r hr => absurd hr (Nat.not_lt_zero _)) (fun c => absurd (by decide) c)⟩) (fun c => by omega))⟩
  | succ d ih =>
    intro cc x7 hq i1 i2
    show w_L_isMessage_b74 G Q _ _ _ _ _ _ _ _ _ _ _ _
    unfold w_L_isMessage_b74 w_L_isMessage_b100
    have bi := hj.2.2 (138 + 2 * cc)
    have bp := hj.2.2 (146 + 7 * p)
    refine ⟨by omega, z, rfl, ak.1.kz, a_crowCount ak (pk_le (v 1) cc (fun c => by omega) (fun c1 => a_car ak c1 ?_))⟩
    rw [nI_add]
    have hcar : car v cc = nI (v (146 + 7 * p)) ↔ v (138 + 2 * cc) = v (146 + 7 * p) + 1 := by
      unfold car
      by_cases f : v (138 + 2 * cc) = 0
      · rw [if_pos f]
        exact ⟨fun e => absurd (e ▸ (by decide : (-75 : Int32) < 0)) (nI_nneg (by omega)), fun e => by omega⟩
      · rw [if_neg f, nI_eq (by omega) (by omega)]
        omega
    refine ⟨fun ne => ⟨by omega, ih (cc + 1) x7 (by omega) (fun c r hr => ?_) i2⟩, fun eq => ⟨by omega, ih (cc + 1) (nI cc) (by omega) (fun c => absurd c (nI_nneg (by omega))) (fun _ => ⟨cc, c1, rfl, hcar.mp eq⟩)⟩⟩
    by_cases z : r = cc
    · subst z
      exact fun w => ne (hcar.mpr w)
    · exact i1 c r (by omega)
/-- the inbox is gone through -/
theorem m35 (h : Lk Q μ z B c v ct V) (hp : p < v 2) : ∀ d k x6, k + d = v (12 + 21 * v (146 + 7 * p + 1) + 2) → (x6 < 0 → ∀ r, r < k → v (12 + 21 * v (146 + 7 * p + 1) + 3 + r) ≠ v (146 + 7 * p)) → (¬ x6 < 0 → v (146 + 7 * p + 4) = 100) → w_L_isMessage_l35 G Q (d + 1) (some z) (nI p) (nI (v (146 + 7 * p))) (nI (v (146 + 7 * p + 1))) (nI (v (146 + 7 * p + 4))) (nI (v (146 + 7 * p + 3))) x6 (-1) (nI k) k μ := by
  have ak := h.ak
  have hj := ak.j
  have hB := ak.bb
  have hn := ak.l.2.2 p hp
  have l8 := (ak.l.2.1 _ hn).1
  intro d
  induction d with
  | zero =>
    intro k x6 hq i1 i2
    show w_L_isMessage_b35 G Q _ _ _ _ _ _ _ _ _ _ _ _
    unfold w_L_isMessage_b35
    have ha : At v p x6 := ⟨fun c s => by
      obtain ⟨r, r1, r2⟩ := in_box hj.1 hp s
      exact i1 c r (by omega) r2, i2⟩
    exact ⟨by omega, a_inboxSize ak hn (pk_le (v (12 + 21 * v (146 + 7 * p + 1) + 2)) k (fun _ => ⟨v 1 + 1, m74 h hp ha (v 1) 0 (-1) (Nat.zero_add _) (fun _ r hr => absurd hr (Nat.not_lt_zero _)) (fun c => absurd (by decide) c)⟩) (fun c => by omega))⟩
  | succ d ih =>
    intro k x6 hq i1 i2
    show w_L_isMessage_b35 G Q _ _ _ _ _ _ _ _ _ _ _ _
    unfold w_L_isMessage_b35 w_L_isMessage_b63
    have bi := hj.2.2 (12 + 21 * v (146 + 7 * p + 1) + 3 + k)
    have bp := hj.2.2 (146 + 7 * p)
    refine ⟨by omega, a_inboxSize ak hn (pk_le (v (12 + 21 * v (146 + 7 * p + 1) + 2)) k (fun c => by omega) (fun k1 => a_inboxMessage ak hn k1 ?_))⟩
    rw [nI_add]
    refine ⟨fun ne => ⟨by omega, ih (k + 1) x6 (by omega) (fun c r hr => ?_) i2⟩, fun eq => ⟨by omega, ih (k + 1) (nI k) (by omega) (fun c => absurd c (nI_nneg (by omega))) (fun _ => in_not hj.1 hp hn k1 (nI_inj (by omega) (by omega) eq))⟩⟩
    by_cases z : r = k
    · subst z
      exact fun w => ne (by rw [w])
    · exact i1 c r (by omega)
theorem l_isMessage (h : Lk Q μ z B c v ct V) (hp : p < v 2) : w_L_isMessage G μ (some z) (nI p) Q := by
  have ak := h.ak
  unfold w_L_isMessage
  exact a_messageAt ak hp (a_nestOf ak hp (a_statusP ak hp (a_attempts ak hp ⟨_, m35 h hp _ 0 (-1) (Nat.zero_add _) (fun _ r hr => absurd hr (Nat.not_lt_zero _)) (fun c => absurd (by decide) c)⟩)))
end MSG

/-! THE LAW'S LOOK AT ALL -/
section WHOL
variable {G : mgT} {μ ν ρ : mmT} {z c m i F n k p ct cc d q y : Nat} {v w : Nat → Nat} {B : Nat} {x x3 : Int32} {V : Nat → Nat → Nat} {Q : Int32 → mmT → Prop}
theorem Lk.to (h : Lk Q μ z B c v ct V) (k : Kp z μ ν) (i : Iv ν z B c v ct V) : Lk Q ν z B c v ct V := ⟨i, h.2.1, h.2.2.1, h.2.2.2.1, fun ρ k2 i2 => h.2.2.2.2 ρ (k.tr k2) i2⟩
theorem w788 (h : Lk Q μ z B c v ct V) : w_L_isWhole_b788 G Q μ := ⟨Or.inr rfl, h.q0⟩
theorem w742 (h : Lk Q μ z B c v ct V) : w_L_isWhole_b742 G Q (some z) x3 (nI 1) (nI 1) (nI 1) (nI 1) μ := by
  have ak := h.ak
  have l0 := ak.l.1.1
  unfold w_L_isWhole_b742
  refine ⟨fun e => absurd e (by decide), fun _ => ⟨fun e => absurd e (by decide), fun _ => ⟨fun e => absurd e (by decide), fun _ => ⟨fun e => absurd e (by decide), fun _ => ⟨z, rfl, ak.1.kz, a_nestCount ak (a_nestBy ak (fun q => absurd q (nr_no l0)) (fun _ => ⟨fun e => absurd rfl e, fun _ => ⟨fun _ => w788 h, fun _ => a_isConsistent ak ⟨fun e => absurd e (by decide), fun _ => w788 h⟩⟩⟩))⟩⟩⟩⟩⟩
theorem w670 (h : Lk Q μ z B c v ct V) : w_L_isWhole_b670 G Q (some z) x3 (nI (v 2)) (nI (cS v 102)) (nI (cS v 100)) (nI (cC v)) (nI (sN v)) (nI 1) (nI 1) (nI 1) μ := by
  have ak := h.ak
  have hj := ak.j
  have hB := ak.bb
  have l2 := ak.l.1.2.2
  have e1 : cS v 102 = cC v := hj.1.2.2.2.2.2.1
  have e2 : cS v 100 = sN v := hj.1.2.2.2.2.2.2
  obtain ⟨t1, t2⟩ := h.ee.2.2.1
  have b6 := hj.2.2 6
  have b8 := hj.2.2 8
  have b9 := hj.2.2 9
  have b10 := hj.2.2 10
  unfold w_L_isWhole_b670
  refine ⟨z, rfl, ak.1.kz, a_byTotals ak ⟨fun e => absurd rfl e, fun _ => ⟨fun e => absurd (by rw [e1]) e, fun _ => ⟨fun e => absurd (by rw [e2]) e, fun _ => a_deliveredTotal ak (a_readTotal ak ?_)⟩⟩⟩⟩
  rw [nI_add, ← t2]
  refine ⟨fun e => absurd rfl e, fun _ => a_arrivalTotal ak (a_deliveredTotal ak (a_duplicateTotal ak (a_failedTotal ak ?_)))⟩
  rw [nI_add, nI_add]
  exact pk_lt (v 10) (v 6 + v 8 + v 9) (fun c => by omega) (fun _ => pk_lt 16 (v 2) (fun c => by omega) (fun _ => w742 h))
theorem cmp0 : Op.cmpValue (some .eq) .l = 0 := by decide
theorem isNaND {X : UInt64} {Q : Int64 → Prop} (h : FP.dcmp X X = some .eq) (hq : Q X.toInt64) : w_Jxe99ae_doubleToLongBits_ccdee G μ X Q := by
  unfold w_Jxe99ae_doubleToLongBits_ccdee w_Jxe99ae_isNaN_b9ae7 w_Jxe99ae_isNaN_b9ae7_b11
  rw [h]
  exact ⟨fun _ => ⟨Or.inl rfl, rfl, hq⟩, fun e => absurd cmp0 e⟩
theorem isNaNF {X : UInt32} {Q : Int32 → Prop} (h : FP.fcmp X X = some .eq) (hq : Q X.toInt32) : w_Jxf58ca_floatToIntBits_5c35a G μ X Q := by
  unfold w_Jxf58ca_floatToIntBits_5c35a w_Jxf58ca_isNaN_12338 w_Jxf58ca_isNaN_12338_b11
  rw [h]
  exact ⟨fun _ => ⟨Or.inl rfl, rfl, hq⟩, fun e => absurd cmp0 e⟩
theorem m74d : FP.dcmp 13858279740860792832 13858279740860792832 = some .eq := by decide +kernel
theorem m74f : FP.fcmp 3264479232 3264479232 = some .eq := by decide +kernel
theorem w596 (h : Lk Q μ z B c v ct V) : w_L_isWhole_b596 G Q (some z) x3 (nI (v 2)) (nI (cS v 102)) (nI (cS v 100)) (nI (cC v)) (nI (sN v)) (nI 1) (nI 1) μ := by
  have ak := h.ak
  have hj := ak.j
  have hB := ak.bb
  have b6 := hj.2.2 6
  have b10 := hj.2.2 10
  unfold w_L_isWhole_b596
  refine ⟨z, rfl, ak.1.kz, a_arrivalTotal ak ⟨fun e => ?_, fun e => ?_⟩⟩
  · have n0 : v 10 ≠ 0 := fun z => e (by rw [z]; rfl)
    have rf := rateF (s := v 6) (n := v 10) (by omega) (by omega) (by omega)
    refine a_rate ak (fun z => absurd z n0) (fun _ => a_deliveredTotal ak (a_arrivalTotal ak ⟨rf.1, ?_⟩))
    rw [rf.2.1]
    refine ⟨fun e => absurd cmp0 e, fun _ => a_rateBits ak (fun z => absurd z n0) (fun _ => a_rate ak (fun z => absurd z n0) (fun _ => isNaNF rf.2.1 ⟨fun e => absurd rfl e, fun _ => w670 h⟩))⟩
  · have n0 : v 10 = 0 := nI_inj (by omega) (by decide) e
    refine a_rate ak (fun _ => ?_) (fun z => absurd n0 z)
    rw [m74f]
    exact ⟨fun e => absurd cmp0 e, fun _ => a_rateBits ak (fun _ => ⟨fun e => absurd rfl e, fun _ => w670 h⟩) (fun z => absurd n0 z)⟩
theorem w524 (h : Lk Q μ z B c v ct V) : w_L_isWhole_b524 G Q (some z) x3 (nI (v 2)) (nI (sAt v)) (nI (cS v 102)) (nI (cS v 100)) (nI (cC v)) (nI (sN v)) (nI 1) μ := by
  have ak := h.ak
  have hj := ak.j
  have hB := ak.bb
  have b2 := hj.2.2 2
  have s8 := sAt_le hj
  unfold w_L_isWhole_b524
  refine ⟨fun e => ?_, fun e => ?_⟩
  · have n0 : v 2 ≠ 0 := fun z => e (by rw [z]; rfl)
    have rf := meanF (s := sAt v) (n := v 2) (by omega) (by omega) (by omega)
    refine a_mean ak (fun z => absurd z n0) (fun _ => ⟨rf.1, ?_⟩)
    rw [rf.2.1]
    refine ⟨fun e => absurd cmp0 e, fun _ => a_meanBits ak (fun z => absurd z n0) (fun _ => a_mean ak (fun z => absurd z n0) (fun _ => isNaND rf.2.1 ⟨fun e => absurd lg_self e, fun _ => w596 h⟩))⟩
  · have n0 : v 2 = 0 := nI_inj (by omega) (by decide) e
    refine a_mean ak (fun _ => ?_) (fun z => absurd n0 z)
    rw [m74d]
    exact ⟨fun e => absurd cmp0 e, fun _ => a_meanBits ak (fun _ => ⟨fun e => absurd lg_self e, fun _ => w596 h⟩) (fun z => absurd n0 z)⟩
/-- the nests are gone through -/
theorem w326 {K : Option Nat → Int32 → Int32 → Int32 → Int32 → Int32 → Int32 → Int32 → Int32 → Int32 → Nat → mmT → Prop} {x2 x4 x5 x6 x7 x8 x9 : Int32} (h : Lk Q μ z B c v ct V) (hn : n < v 0) (hk : K (some z) x2 x3 x4 x5 x6 x7 x8 x9 (nI (n + 1)) (n + 1) μ) : ∀ d y, y + d = 100 → w_L_isWhole_l326 G Q K (d + 1) (some z) x2 x3 x4 x5 x6 x7 x8 x9 (nI n) (nI (cnt (fun y => fKnX v n (nI y)) y)) (nI y) n y μ := by
  have ak := h.ak
  have hj := ak.j
  have hB := ak.bb
  have l0 := ak.l.1.1
  have l8 := ak.l.2.1 n hn
  intro d
  induction d with
  | zero =>
    intro y hy
    show w_L_isWhole_b326 G Q _ _ _ _ _ _ _ _ _ _ _ _ _ _ _ _ _
    unfold w_L_isWhole_b326
    obtain rfl : y = 100 := by omega
    have hr := nr_yes l0 hn
    have fin : ∀ s : Int32, (n ≠ 0 → nI (fNR v (nI n)) ≠ s) → w_L_isWhole_b424 G Q K (some z) x2 x3 x4 x5 x6 x7 x8 x9 (nI n) (nI (fNR v (nI n))) s n μ := fun s hs => by
      unfold w_L_isWhole_b424 w_L_isWhole_b445
      refine ⟨by omega, fun e => absurd e (nI_nneg (by omega)), fun _ => pk_le n 0 (fun _ => ⟨by omega, by rw [nI_add]; exact hk⟩) (fun e => ⟨fun _ => ⟨by omega, by rw [nI_add]; exact hk⟩, fun e2 => absurd e2 (hs (by omega))⟩)⟩
    refine ⟨by omega, by omega, fun _ => a_inboxSize ak hn (pk_lt 8 (v (12 + 21 * n + 2)) (fun c => by omega) (fun _ => a_rememberedCount ak hn (pk_lt 8 (v (12 + 21 * n + 11)) (fun c => by omega) (fun _ => a_rememberedCount ak hn ?_)))), fun e => absurd (nI_le (Nat.le_refl 100) (by decide)) e⟩
    rw [kn_cnt h.ee.2.2.2 hn]
    refine ⟨fun e => absurd rfl e, fun _ => a_remembers ak hn ?_⟩
    rw [kn_100 h.ee.2.2.2 hn, if_neg (by decide)]
    refine ⟨fun _ => a_nestBy ak (fun _ => ⟨fun e => ?_, fun e => fin _ (fun n0 => absurd (nI_inj (by omega) (by decide) e) n0)⟩) (fun z => absurd hr z), fun e => absurd (by decide) e⟩
    have n0 : n ≠ 0 := fun z => e (by rw [z]; rfl)
    rw [pk_sub (by omega)]
    have hr2 := nr_yes l0 (show n - 1 < v 0 by omega)
    refine a_nestBy ak (fun _ => fin _ (fun _ e2 => ?_)) (fun z => absurd hr2 z)
    have := nr_ne (q := n - 1) l0 (by omega)
    rw [show n - 1 + 1 = n by omega] at this
    exact this (nI_inj (by omega) (by omega) e2)
  | succ d ih =>
    intro y hy
    show w_L_isWhole_b326 G Q _ _ _ _ _ _ _ _ _ _ _ _ _ _ _ _ _
    unfold w_L_isWhole_b326
    refine ⟨by omega, by omega, pk_le 100 y (fun c => by omega) (fun _ => a_remembers ak hn ?_)⟩
    have := ih (y + 1) (by omega)
    rw [cnt_S] at this
    rw [nI_add]
    by_cases f : fKnX v n (nI y) = true
    · rw [if_pos f] at this ⊢
      rw [nI_add]
      exact this
    · rw [if_neg f] at this ⊢
      rw [nI_add]
      exact this
theorem w300 (hN : gX G 6 < 2 ^ 31) (hk : k < 2 ^ 30) (h : Lk Q μ z B c v ct V) : ∀ d n, n + d = v 0 → w_L_isWhole_l300 G Q (d + 1) (some z) (nI k) x3 (nI (v 2)) (nI (sAt v)) (nI (cS v 102)) (nI (cS v 100)) (nI (cC v)) (nI (su (fun n => v (12 + 21 * n + 2)) n)) (nI n) n μ := by
  have ak := h.ak
  have hj := ak.j
  have hB := ak.bb
  have l0 := ak.l.1.1
  intro d
  induction d with
  | zero =>
    intro n hy
    show w_L_isWhole_b300 G Q _ _ _ _ _ _ _ _ _ _ _ _ _
    unfold w_L_isWhole_b300
    refine ⟨by omega, z, rfl, ak.1.kz, a_nestCount ak (pk_le (v 0) n (fun _ => ?_) (fun c => by omega))⟩
    obtain rfl : n = v 0 := by omega
    rw [nI_add]
    refine a_pick hN (by omega) (by decide) (by decide) (fun j hj => a_napLength ak (by omega) (a_napDoubling ak (by omega) ⟨fun e => absurd lg_self e, fun _ => ⟨fun e => ?_, fun e => ?_⟩⟩))
    · have j0 : j ≠ 0 := fun z => e (by rw [z]; rfl)
      rw [pk_sub (by omega)]
      refine a_napLength ak (by omega) (a_napLength ak (by omega) ?_)
      have e2 : (2 : Int64) * lN (2 ^ (j - 1)) = lN (2 ^ j) := by
        show lN 2 * _ = _
        rw [lN_mul, Nat.mul_comm, ← Nat.pow_succ, show (j - 1).succ = j by omega]
      rw [e2]
      exact ⟨fun e => absurd lg_self e, fun _ => w524 h⟩
    · have j0 : j = 0 := nI_inj (by omega) (by decide) e
      subst j0
      exact a_napLength ak (by omega) ⟨fun e => absurd lg_self e, fun _ => w524 h⟩
  | succ d ih =>
    intro n hy
    show w_L_isWhole_b300 G Q _ _ _ _ _ _ _ _ _ _ _ _ _
    unfold w_L_isWhole_b300
    have hn : n < v 0 := by omega
    refine ⟨by omega, z, rfl, ak.1.kz, a_nestCount ak (pk_le (v 0) n (fun c => by omega) (fun _ => a_inboxSize ak hn ⟨101, ?_⟩))⟩
    rw [nI_add]
    exact w326 h hn (ih (n + 1) (by omega)) 100 0 rfl
/-- those that wait -/
theorem w222 (hN : gX G 6 < 2 ^ 31) (hk : k < 2 ^ 30) (h : Lk Q μ z B c v ct V) (hm : m ≤ v 2) (h1 : ∀ q, q < m → ∃ i, Wt v q i) (h2 : ∀ q, m ≤ q → ∀ i, ¬ Wt v q i) : ∀ d t, m ≤ t + 1 + d → t ≤ 16 → w_L_isWhole_l222 G Q (d + 1) (some z) (nI k) x3 (nI (v 2)) (nI (sAt v)) (nI (cS v 102)) (nI (cS v 100)) (nI (cC v)) (nI (t + 1)) t μ := by
  have ak := h.ak
  have hj := ak.j
  have hB := ak.bb
  have l2 := ak.l.1.2.2
  have out : ∀ (K : Option Nat → Int32 → Int32 → Int32 → Int32 → Int32 → Int32 → Int32 → Int32 → Nat → mmT → Prop) t, m ≤ t + 1 → t ≤ 16 → w_L_isWhole_b222 G Q K (some z) (nI k) x3 (nI (v 2)) (nI (sAt v)) (nI (cS v 102)) (nI (cS v 100)) (nI (cC v)) (nI (t + 1)) t μ := fun K t hm ht => by
    unfold w_L_isWhole_b222
    have e := wt_no l2 (show t + 1 < 2 ^ 31 by omega) (h2 (t + 1) hm)
    exact ⟨ht, a_waiting ak (fun z => by omega) (fun _ => ⟨fun _ => ⟨_, w300 hN hk h (v 0) 0 (Nat.zero_add _)⟩, fun c => absurd (by decide) c⟩)⟩
  intro d
  induction d with
  | zero =>
    intro t hq ht
    exact out _ t (by omega) ht
  | succ d ih =>
    intro t hq ht
    show w_L_isWhole_b222 G Q _ _ _ _ _ _ _ _ _ _ _ _
    by_cases e : m ≤ t + 1
    · exact out _ t e ht
    · unfold w_L_isWhole_b222 w_L_isWhole_b288
      obtain ⟨i, hi⟩ := h1 t (by omega)
      obtain ⟨j, hj2⟩ := h1 (t + 1) (by omega)
      have ei := wt_yes l2 hi
      have ej := wt_yes l2 hj2
      have il := hi.1
      have jl := hj2.1
      have bi := hj.2.2 (146 + 7 * i)
      have bj := hj.2.2 (146 + 7 * j)
      have bi3 := hj.2.2 (146 + 7 * i + 3)
      have bj3 := hj.2.2 (146 + 7 * j + 3)
      have od := Wt_ord hi hj2
      have nx : t + 1 ≤ 16 := by omega
      rw [pk_sub (by omega), show t + 1 - 1 = t by omega]
      refine ⟨ht, a_waiting ak (fun _ => ?_) (fun z => by omega)⟩
      rw [ej]
      refine ⟨fun c => absurd c (nI_nneg (by omega)), fun _ => a_waiting ak (fun _ => a_waiting ak (fun _ => ?_) (fun z => by omega)) (fun z => by omega)⟩
      rw [ei, ej, nI_add]
      refine a_attempts ak il (a_attempts ak jl (pk_lt (v (146 + 7 * j + 3)) (v (146 + 7 * i + 3)) (fun c => by omega) (fun _ => a_attempts ak il (a_attempts ak jl ⟨fun _ => ⟨by omega, ih (t + 1) (by omega) nx⟩, fun e2 => ?_⟩))))
      have e3 := nI_inj (by omega) (by omega) e2
      have := hj.1.2.1.2 i j (by omega) jl
      exact pk_le (v (146 + 7 * i)) (v (146 + 7 * j)) (fun _ => ⟨by omega, ih (t + 1) (by omega) nx⟩) (fun c => by omega)
/-- the crows -/
theorem w127 (hN : gX G 6 < 2 ^ 31) (hk : k < 2 ^ 30) (h : Lk Q μ z B c v ct V) : ∀ d cc, cc + d = v 1 → w_L_isWhole_l127 G Q (d + 1) (some z) (nI k) x3 (nI (v 2)) (nI (sAt v)) (nI (cS v 102)) (nI (cS v 100)) (nI (cnt (fun c => decide (v (138 + 2 * c) ≠ 0)) cc)) (nI cc) cc μ := by
  have ak := h.ak
  have hj := ak.j
  have hB := ak.bb
  have l1 := ak.l.1.2.1
  intro d
  induction d with
  | zero =>
    intro cc hy
    show w_L_isWhole_b127 G Q _ _ _ _ _ _ _ _ _ _ _ _
    unfold w_L_isWhole_b127
    obtain rfl : cc = v 1 := by omega
    obtain ⟨m, hm, h1, h2⟩ := wt_m v ak.l.1.2.2
    have l2 := ak.l.1.2.2
    exact ⟨by omega, z, rfl, ak.1.kz, a_crowCount ak (pk_le (v 1) (v 1) (fun _ => ⟨17, w222 hN hk h hm h1 h2 16 0 (by omega) (by omega)⟩) (fun c => by omega))⟩
  | succ d ih =>
    intro cc hy
    show w_L_isWhole_b127 G Q _ _ _ _ _ _ _ _ _ _ _ _
    unfold w_L_isWhole_b127 w_L_isWhole_b161 w_L_isWhole_b176 w_L_isWhole_b193 w_L_isWhole_b208
    have hc : cc < v 1 := by omega
    have t4 : cc ≤ 4 := by omega
    have nx := ih (cc + 1) (by omega)
    rw [cnt_S] at nx
    have b1 := hj.2.2 (138 + 2 * cc)
    have b2 := hj.2.2 (138 + 2 * cc + 1)
    have cz := ak.2.2.1.2.2.1 cc hc
    have n01 : ¬ (nI 0 : Int32) = nI 1 := by decide
    refine ⟨t4, z, rfl, ak.1.kz, a_crowCount ak (pk_le (v 1) cc (fun c => by omega) (fun _ => a_isFlying ak hc ?_))⟩
    by_cases f : v (138 + 2 * cc) = 0
    · rw [if_neg (fun e => absurd f (of_decide_eq_true e))] at nx
      have e0 := cz f
      rw [if_pos f, nI_add, nI_add]
      refine a_flightMinutes ak hc (pk_le (v (138 + 2 * cc + 1)) 0 (fun _ => ?_) (fun c => by omega))
      refine ⟨t4, a_isFlying ak hc ?_⟩
      rw [if_pos f]
      refine ⟨fun _ => ⟨t4, fun e => absurd rfl e, fun _ => a_carried ak hc (fun _ => ?_) (fun e => absurd f e)⟩, fun e => absurd e n01⟩
      refine ⟨fun _ => ⟨t4, a_isFlying ak hc ?_⟩, fun e => absurd (by decide) e⟩
      rw [if_pos f]
      exact ⟨fun _ => ⟨t4, fun _ => nx, fun e => absurd rfl e⟩, fun e => absurd e n01⟩
    · rw [if_pos (decide_eq_true f)] at nx
      have m1 := (hj.1.2.2.2.1.1 cc hc f).1
      rw [if_neg f, nI_add, nI_add]
      refine a_flightMinutes ak hc (pk_le (v (138 + 2 * cc + 1)) 0 (fun c => by omega) (fun _ => ?_))
      refine ⟨t4, a_isFlying ak hc ?_⟩
      rw [if_neg f]
      refine ⟨fun e => absurd rfl e, fun _ => ⟨t4, fun e => absurd rfl e, fun _ => a_carried ak hc (fun e => absurd e f) (fun _ => ?_)⟩⟩
      refine ⟨fun e => absurd e (nI_nneg (by omega)), fun _ => ⟨t4, a_isFlying ak hc ?_⟩⟩
      rw [if_neg f]
      exact ⟨fun e => absurd rfl e, fun _ => ⟨t4, fun _ => nx, fun e => absurd rfl e⟩⟩
/-- the messages -/
theorem w18 (hN : gX G 6 < 2 ^ 31) (hk : k < 2 ^ 30) : ∀ d p μ, p + d = v 2 → Lk Q μ z B c v ct V → w_L_isWhole_l18 G Q (d + 1) (some z) (nI k) x3 (nI (v 2)) (nI (su (fun p => v (146 + 7 * p + 3)) p)) (nI (cnt (fun q => decide (v (146 + 7 * q + 4) = 102)) p)) (nI (cnt (fun q => decide (v (146 + 7 * q + 4) = 100)) p)) (nI p) p μ := by
  intro d
  induction d with
  | zero =>
    intro p μ hy h
    have ak := h.ak
    have l2 := ak.l.1.2.2
    show w_L_isWhole_b18 G Q _ _ _ _ _ _ _ _ _ _ _
    unfold w_L_isWhole_b18
    obtain rfl : p = v 2 := by omega
    exact ⟨by omega, pk_le (v 2) (v 2) (fun _ => ⟨_, w127 hN hk h (v 1) 0 (Nat.zero_add _)⟩) (fun c => by omega)⟩
  | succ d ih =>
    intro p μ hy h
    have ak := h.ak
    have l2 := ak.l.1.2.2
    show w_L_isWhole_b18 G Q _ _ _ _ _ _ _ _ _ _ _
    unfold w_L_isWhole_b18
    have hp : p < v 2 := by omega
    have t16 : p ≤ 16 := by omega
    have b54 : ∀ ν, Lk Q ν z B c v ct V → w_L_isWhole_b54 G Q (w_L_isWhole_l18 G Q (d + 1)) (some z) (nI k) x3 (nI (v 2)) (nI (su (fun p => v (146 + 7 * p + 3)) p)) (nI (cnt (fun q => decide (v (146 + 7 * q + 4) = 102)) p)) (nI (cnt (fun q => decide (v (146 + 7 * q + 4) = 100)) p)) (nI p) p ν := fun ν h => by
      have ak := h.ak
      have hj := ak.j
      have hB := ak.bb
      have b4 := hj.2.2 (146 + 7 * p + 4)
      have nx := ih (p + 1) ν (by omega) h
      rw [cnt_S, cnt_S] at nx
      unfold w_L_isWhole_b54 w_L_isWhole_b91 w_L_isWhole_b112
      refine ⟨t16, a_messageAt ak hp (a_attempts ak hp (a_statusP ak hp ?_))⟩
      simp only [nI_add]
      refine ⟨fun e => ⟨t16, a_statusP ak hp ?_⟩, fun e => ⟨t16, a_statusP ak hp ?_⟩⟩
      · rw [if_neg (fun z => e (by rw [of_decide_eq_true z]))] at nx
        refine ⟨fun e2 => ⟨t16, ?_⟩, fun e2 => ⟨t16, ?_⟩⟩
        · rw [if_neg (fun z => e2 (by rw [of_decide_eq_true z]))] at nx
          exact nx
        · rw [if_pos (decide_eq_true (nI_inj (by omega) (by decide) e2))] at nx
          exact nx
      · have s := nI_inj (by omega) (by decide) e
        rw [if_pos (decide_eq_true s), if_neg (fun z => by have := of_decide_eq_true z; omega)] at nx
        refine ⟨fun e2 => ⟨t16, ?_⟩, fun e2 => ?_⟩
        · exact nx
        · have := nI_inj (by omega) (by decide) e2
          omega
    have b43 : w_L_isWhole_b43 G Q (w_L_isWhole_l18 G Q (d + 1)) (some z) (nI k) x3 (nI (v 2)) (nI (su (fun p => v (146 + 7 * p + 3)) p)) (nI (cnt (fun q => decide (v (146 + 7 * q + 4) = 102)) p)) (nI (cnt (fun q => decide (v (146 + 7 * q + 4) = 100)) p)) (nI p) p μ := by
      unfold w_L_isWhole_b43
      exact ⟨t16, l_isMessage ⟨h.1, h.2.1, h.2.2.1, h.2.2.2.1, fun ν kp iv => ⟨fun _ => b54 ν (h.to kp iv), fun e => absurd e (by decide)⟩⟩ hp⟩
    refine ⟨t16, pk_le (v 2) p (fun c => by omega) (fun _ => ⟨fun _ => b43, fun _ => ?_⟩)⟩
    rw [nI_add]
    exact a_pick hN (by omega) (by decide) (by decide) (fun j _ => ⟨fun _ => b54 μ h, fun _ => b43⟩)
theorem l_isWhole (hN : gX G 6 < 2 ^ 31) (hk : k < 2 ^ 30) (h : Lk Q μ z B c v ct V) : w_L_isWhole G μ (some z) (nI k) x3 Q := by
  unfold w_L_isWhole
  exact ⟨z, rfl, h.ak.1.kz, a_messageCount h.ak ⟨_, w18 hN hk (v 2) 0 μ (Nat.zero_add _) h⟩⟩
end WHOL
